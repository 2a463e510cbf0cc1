/-! EXPLORATIONS: from the first state to the last -/
section GOT
variable {E J m k n i j K T t ch e q u : Nat} {μ ν μ' ν' : zM} {c s f c' s' P : Nat → Int32} {v : Int32}
theorem HRs.cg (hp : PrE E μ μ') (h10 : μ' (E + 10) = μ (E + 10)) (H : HRs μ E P k) : HRs μ' E P k := by
  unfold HRs at H ⊢
  rw [newA_cg hp h10, cntA_cg hp h10, rC_cg h10]
  exact H
theorem wr_exP {o : Option (Int32 × zM)} {v : Int32} (F : (Nat → Int32) → zM) (h : wr o (fun r m' => ∃ P', m' = F P' ∧ r = v)) : ∃ P', ∀ Q, wr o Q = Q v (F P') := by
  obtain ⟨r, m', e, P', rfl, rfl⟩ := wr_get h
  exact ⟨P', fun Q => by rw [e]; rfl⟩
theorem e_countRes (X : XTr E n μ) (h11 : μ E 11 = nI n) (hn : n ≤ 1500) : ∃ P', ∀ Q, wr (M_X1_countResults E [] μ) Q = Q (nI (cntA μ E n)) (zsa μ (E + 16) P') := by
  apply wr_exP (fun P' => zsa μ (E + 16) P')
  simp only [M_X1_countResults, B_X1_countResults]
  simp -implicitDefEqProofs (disch := omega) only [zA0_ap, zA1_ap, zA2_ap, zA3_ap, zA4_ap, zA5_ap, v_fi, v_fz, v_fv, w_k, v_l, v_bin, v_biq, v_ald, v_tb, w_al, w_fd, v_cond, v_call, v_pi, w_an, v_ai, v_aq, v_cmp, v_cm0, w_cb, v_nt, v_and, v_or, w_sk, w_bk, w_cn, w_rv, v_rt, v_sq, v_se, v_ex, v_as, v_az, v_ao, v_pf, v_pz, v_fo, v_if, v_sw, v_lw, v_fl, v_cy, v_cyd, w_lr, wl_some, k_sq0, k_sq1, k_sq2, k_sq3, k_se, k_ex, k_rt, k_l, k_b2, k_b1, k_q2, k_q1, k_ald, k_tb, k_pi, k_condT, k_condF, k_condK, k_call, k_ac, k_ai, k_aq, k_c2, k_c1, k_c0, k_nt, k_andT, k_andF, k_orT, k_orF, k_as2, k_as1, k_az2, k_az1, k_ao2, k_ao1, k_pf, k_pz, k_fo, k_ifT, k_ifF, k_br0, k_br1, k_br2, k_br3, k_s0, k_s1, k_t1, k_s4, k_t4, k_s20, k_t20, zpk_n, zpk_z, zpk_s, k_lw, k_fl, k_cy3, k_cy2, k_cy1, k_cd2, k_cd1, k_w3, k_w20, k_w21, k_w22, k_w23, k_w1T, k_w1F, k_fi, k_fz1, k_fz0, k_fzi, k_fz, k_fv0, k_fv3, k_I, k_B0, k_B1, k_B2, k_B3, k_C, k_E, zenv, zup, ze0, n_add, n_mul, m_st, m_sa, m_ne, m_ss, mm_s, mm_f, mm_ne, mm_ss, mm_sf, Nat.zero_add, u_at, u_ne, if_true, if_false, ite_true, ite_false, reduceIte, and_self, and_true, true_and, or_true, true_or, or_false, false_or, or_self, and_false, false_and, Bool.not_true, Bool.not_false, decide_true, decide_false, ne_eq, n_eqT, n_eqF, n_ltT, n_ltF, n_leT, n_leF, n_z0, n_zF, n_o1, n_oF, n_p0, n_pF, n_lt0, n_ge0, zeq, zne, zlt, zle, zge, zgt, ziadd, zisub, zimul, ziand, zior, zixor, zishl, zishr, ziushr, zidiv, zirem, zmax, zmin, Bool.false_eq_true, not_true_eq_false, not_false_eq_true, Nat.reduceEqDiff, Nat.reduceAdd, Nat.reduceMul, Nat.reduceSub, e_fill0]
  apply v_for (fun k ρ m' => ρ 1 = some (nI (cntA μ E k)) ∧ ρ 2 = some (nI k) ∧ ∃ P, m' = zsa μ (E + 16) P ∧ HRs μ E P k) n (by omega)
  · rintro k ρ m' hk ⟨i1, i2, P, rfl, H⟩
    have p1 : PrE E μ (zsa μ (E + 16) P) := fun a a1 a2 => m_ne (by omega)
    have h10 : zsa μ (E + 16) P (E + 10) = μ (E + 10) := m_ne (by omega)
    have tk := X.1 k hk
    have ok := tr_ok (μ := μ) (rC μ E k) (E + 1)
    by_cases ho : okR μ E k
    · have ok1 := ok.mpr ho
      obtain ⟨P', e1, H'⟩ := e_newRes (μ := zsa μ (E + 16) P) (k := k) (by rw [m_sa]; exact H.cg p1 h10) (by omega) (by rw [okR_cg p1 h10]; exact ho)
      rw [newA_cg p1 h10, m_ss] at e1
      have H2 : HRs μ E P' (k + 1) := H'.cg (μ := zsa μ (E + 16) P) (fun a a1 a2 => (p1 a a1 a2).symm) h10.symm
      by_cases hN : newA μ E k
      · have ec : cntA μ E k + 1 = cntA μ E (k + 1) := by rw [cntA, b01_T hN]
        simp -implicitDefEqProofs (disch := omega) only [zA0_ap, zA1_ap, zA2_ap, zA3_ap, zA4_ap, zA5_ap, v_fi, v_fz, v_fv, w_k, v_l, v_bin, v_biq, v_ald, v_tb, w_al, w_fd, v_cond, v_call, v_pi, w_an, v_ai, v_aq, v_cmp, v_cm0, w_cb, v_nt, v_and, v_or, w_sk, w_bk, w_cn, w_rv, v_rt, v_sq, v_se, v_ex, v_as, v_az, v_ao, v_pf, v_pz, v_fo, v_if, v_sw, v_lw, v_fl, v_cy, v_cyd, w_lr, wl_some, k_sq0, k_sq1, k_sq2, k_sq3, k_se, k_ex, k_rt, k_l, k_b2, k_b1, k_q2, k_q1, k_ald, k_tb, k_pi, k_condT, k_condF, k_condK, k_call, k_ac, k_ai, k_aq, k_c2, k_c1, k_c0, k_nt, k_andT, k_andF, k_orT, k_orF, k_as2, k_as1, k_az2, k_az1, k_ao2, k_ao1, k_pf, k_pz, k_fo, k_ifT, k_ifF, k_br0, k_br1, k_br2, k_br3, k_s0, k_s1, k_t1, k_s4, k_t4, k_s20, k_t20, zpk_n, zpk_z, zpk_s, k_lw, k_fl, k_cy3, k_cy2, k_cy1, k_cd2, k_cd1, k_w3, k_w20, k_w21, k_w22, k_w23, k_w1T, k_w1F, k_fi, k_fz1, k_fz0, k_fzi, k_fz, k_fv0, k_fv3, k_I, k_B0, k_B1, k_B2, k_B3, k_C, k_E, zenv, zup, ze0, n_add, n_mul, m_st, m_sa, m_ne, m_ss, mm_s, mm_f, mm_ne, mm_ss, mm_sf, Nat.zero_add, u_at, u_ne, if_true, if_false, ite_true, ite_false, reduceIte, and_self, and_true, true_and, or_true, true_or, or_false, false_or, or_self, and_false, false_and, Bool.not_true, Bool.not_false, decide_true, decide_false, ne_eq, n_eqT, n_eqF, n_ltT, n_ltF, n_leT, n_leF, n_z0, n_zF, n_o1, n_oF, n_p0, n_pF, n_lt0, n_ge0, zeq, zne, zlt, zle, zge, zgt, ziadd, zisub, zimul, ziand, zior, zixor, zishl, zishr, ziushr, zidiv, zirem, zmax, zmin, Bool.false_eq_true, not_true_eq_false, not_false_eq_true, Nat.reduceEqDiff, Nat.reduceAdd, Nat.reduceMul, Nat.reduceSub, i1, i2, h11, tk, ok1, e1, b01_T hN, ec]
        exact ⟨_, rfl, H2⟩
      · have ec : cntA μ E k = cntA μ E (k + 1) := by rw [cntA, b01_F hN]; rfl
        simp -implicitDefEqProofs (disch := omega) only [zA0_ap, zA1_ap, zA2_ap, zA3_ap, zA4_ap, zA5_ap, v_fi, v_fz, v_fv, w_k, v_l, v_bin, v_biq, v_ald, v_tb, w_al, w_fd, v_cond, v_call, v_pi, w_an, v_ai, v_aq, v_cmp, v_cm0, w_cb, v_nt, v_and, v_or, w_sk, w_bk, w_cn, w_rv, v_rt, v_sq, v_se, v_ex, v_as, v_az, v_ao, v_pf, v_pz, v_fo, v_if, v_sw, v_lw, v_fl, v_cy, v_cyd, w_lr, wl_some, k_sq0, k_sq1, k_sq2, k_sq3, k_se, k_ex, k_rt, k_l, k_b2, k_b1, k_q2, k_q1, k_ald, k_tb, k_pi, k_condT, k_condF, k_condK, k_call, k_ac, k_ai, k_aq, k_c2, k_c1, k_c0, k_nt, k_andT, k_andF, k_orT, k_orF, k_as2, k_as1, k_az2, k_az1, k_ao2, k_ao1, k_pf, k_pz, k_fo, k_ifT, k_ifF, k_br0, k_br1, k_br2, k_br3, k_s0, k_s1, k_t1, k_s4, k_t4, k_s20, k_t20, zpk_n, zpk_z, zpk_s, k_lw, k_fl, k_cy3, k_cy2, k_cy1, k_cd2, k_cd1, k_w3, k_w20, k_w21, k_w22, k_w23, k_w1T, k_w1F, k_fi, k_fz1, k_fz0, k_fzi, k_fz, k_fv0, k_fv3, k_I, k_B0, k_B1, k_B2, k_B3, k_C, k_E, zenv, zup, ze0, n_add, n_mul, m_st, m_sa, m_ne, m_ss, mm_s, mm_f, mm_ne, mm_ss, mm_sf, Nat.zero_add, u_at, u_ne, if_true, if_false, ite_true, ite_false, reduceIte, and_self, and_true, true_and, or_true, true_or, or_false, false_or, or_self, and_false, false_and, Bool.not_true, Bool.not_false, decide_true, decide_false, ne_eq, n_eqT, n_eqF, n_ltT, n_ltF, n_leT, n_leF, n_z0, n_zF, n_o1, n_oF, n_p0, n_pF, n_lt0, n_ge0, zeq, zne, zlt, zle, zge, zgt, ziadd, zisub, zimul, ziand, zior, zixor, zishl, zishr, ziushr, zidiv, zirem, zmax, zmin, Bool.false_eq_true, not_true_eq_false, not_false_eq_true, Nat.reduceEqDiff, Nat.reduceAdd, Nat.reduceMul, Nat.reduceSub, i1, i2, h11, tk, ok1, e1, b01_F hN]
        exact ⟨by rw [ec], _, rfl, H2⟩
    · have ok1 : ¬ (nI (trN μ (E + 1) (rC μ E k)) &&& nI 3 = nI 1) := fun q => ho (ok.mp q)
      have hN : ¬ newA μ E k := fun q => ho q.1
      have ec : cntA μ E k = cntA μ E (k + 1) := by rw [cntA, b01_F hN]; rfl
      simp -implicitDefEqProofs (disch := omega) only [zA0_ap, zA1_ap, zA2_ap, zA3_ap, zA4_ap, zA5_ap, v_fi, v_fz, v_fv, w_k, v_l, v_bin, v_biq, v_ald, v_tb, w_al, w_fd, v_cond, v_call, v_pi, w_an, v_ai, v_aq, v_cmp, v_cm0, w_cb, v_nt, v_and, v_or, w_sk, w_bk, w_cn, w_rv, v_rt, v_sq, v_se, v_ex, v_as, v_az, v_ao, v_pf, v_pz, v_fo, v_if, v_sw, v_lw, v_fl, v_cy, v_cyd, w_lr, wl_some, k_sq0, k_sq1, k_sq2, k_sq3, k_se, k_ex, k_rt, k_l, k_b2, k_b1, k_q2, k_q1, k_ald, k_tb, k_pi, k_condT, k_condF, k_condK, k_call, k_ac, k_ai, k_aq, k_c2, k_c1, k_c0, k_nt, k_andT, k_andF, k_orT, k_orF, k_as2, k_as1, k_az2, k_az1, k_ao2, k_ao1, k_pf, k_pz, k_fo, k_ifT, k_ifF, k_br0, k_br1, k_br2, k_br3, k_s0, k_s1, k_t1, k_s4, k_t4, k_s20, k_t20, zpk_n, zpk_z, zpk_s, k_lw, k_fl, k_cy3, k_cy2, k_cy1, k_cd2, k_cd1, k_w3, k_w20, k_w21, k_w22, k_w23, k_w1T, k_w1F, k_fi, k_fz1, k_fz0, k_fzi, k_fz, k_fv0, k_fv3, k_I, k_B0, k_B1, k_B2, k_B3, k_C, k_E, zenv, zup, ze0, n_add, n_mul, m_st, m_sa, m_ne, m_ss, mm_s, mm_f, mm_ne, mm_ss, mm_sf, Nat.zero_add, u_at, u_ne, if_true, if_false, ite_true, ite_false, reduceIte, and_self, and_true, true_and, or_true, true_or, or_false, false_or, or_self, and_false, false_and, Bool.not_true, Bool.not_false, decide_true, decide_false, ne_eq, n_eqT, n_eqF, n_ltT, n_ltF, n_leT, n_leF, n_z0, n_zF, n_o1, n_oF, n_p0, n_pF, n_lt0, n_ge0, zeq, zne, zlt, zle, zge, zgt, ziadd, zisub, zimul, ziand, zior, zixor, zishl, zishr, ziushr, zidiv, zirem, zmax, zmin, Bool.false_eq_true, not_true_eq_false, not_false_eq_true, Nat.reduceEqDiff, Nat.reduceAdd, Nat.reduceMul, Nat.reduceSub, i1, i2, h11, tk, ok1]
      exact ⟨by rw [ec], _, rfl, H.skip hN⟩
  · rintro ρ m' ⟨i1, i2, P, rfl, H⟩
    simp -implicitDefEqProofs (disch := omega) only [zA0_ap, zA1_ap, zA2_ap, zA3_ap, zA4_ap, zA5_ap, v_fi, v_fz, v_fv, w_k, v_l, v_bin, v_biq, v_ald, v_tb, w_al, w_fd, v_cond, v_call, v_pi, w_an, v_ai, v_aq, v_cmp, v_cm0, w_cb, v_nt, v_and, v_or, w_sk, w_bk, w_cn, w_rv, v_rt, v_sq, v_se, v_ex, v_as, v_az, v_ao, v_pf, v_pz, v_fo, v_if, v_sw, v_lw, v_fl, v_cy, v_cyd, w_lr, wl_some, k_sq0, k_sq1, k_sq2, k_sq3, k_se, k_ex, k_rt, k_l, k_b2, k_b1, k_q2, k_q1, k_ald, k_tb, k_pi, k_condT, k_condF, k_condK, k_call, k_ac, k_ai, k_aq, k_c2, k_c1, k_c0, k_nt, k_andT, k_andF, k_orT, k_orF, k_as2, k_as1, k_az2, k_az1, k_ao2, k_ao1, k_pf, k_pz, k_fo, k_ifT, k_ifF, k_br0, k_br1, k_br2, k_br3, k_s0, k_s1, k_t1, k_s4, k_t4, k_s20, k_t20, zpk_n, zpk_z, zpk_s, k_lw, k_fl, k_cy3, k_cy2, k_cy1, k_cd2, k_cd1, k_w3, k_w20, k_w21, k_w22, k_w23, k_w1T, k_w1F, k_fi, k_fz1, k_fz0, k_fzi, k_fz, k_fv0, k_fv3, k_I, k_B0, k_B1, k_B2, k_B3, k_C, k_E, zenv, zup, ze0, n_add, n_mul, m_st, m_sa, m_ne, m_ss, mm_s, mm_f, mm_ne, mm_ss, mm_sf, Nat.zero_add, u_at, u_ne, if_true, if_false, ite_true, ite_false, reduceIte, and_self, and_true, true_and, or_true, true_or, or_false, false_or, or_self, and_false, false_and, Bool.not_true, Bool.not_false, decide_true, decide_false, ne_eq, n_eqT, n_eqF, n_ltT, n_ltF, n_leT, n_leF, n_z0, n_zF, n_o1, n_oF, n_p0, n_pF, n_lt0, n_ge0, zeq, zne, zlt, zle, zge, zgt, ziadd, zisub, zimul, ziand, zior, zixor, zishl, zishr, ziushr, zidiv, zirem, zmax, zmin, Bool.false_eq_true, not_true_eq_false, not_false_eq_true, Nat.reduceEqDiff, Nat.reduceAdd, Nat.reduceMul, Nat.reduceSub, i1, i2, h11]
    exact ⟨_, rfl⟩
  · simp -implicitDefEqProofs (disch := omega) only [zA0_ap, zA1_ap, zA2_ap, zA3_ap, zA4_ap, zA5_ap, v_fi, v_fz, v_fv, w_k, v_l, v_bin, v_biq, v_ald, v_tb, w_al, w_fd, v_cond, v_call, v_pi, w_an, v_ai, v_aq, v_cmp, v_cm0, w_cb, v_nt, v_and, v_or, w_sk, w_bk, w_cn, w_rv, v_rt, v_sq, v_se, v_ex, v_as, v_az, v_ao, v_pf, v_pz, v_fo, v_if, v_sw, v_lw, v_fl, v_cy, v_cyd, w_lr, wl_some, k_sq0, k_sq1, k_sq2, k_sq3, k_se, k_ex, k_rt, k_l, k_b2, k_b1, k_q2, k_q1, k_ald, k_tb, k_pi, k_condT, k_condF, k_condK, k_call, k_ac, k_ai, k_aq, k_c2, k_c1, k_c0, k_nt, k_andT, k_andF, k_orT, k_orF, k_as2, k_as1, k_az2, k_az1, k_ao2, k_ao1, k_pf, k_pz, k_fo, k_ifT, k_ifF, k_br0, k_br1, k_br2, k_br3, k_s0, k_s1, k_t1, k_s4, k_t4, k_s20, k_t20, zpk_n, zpk_z, zpk_s, k_lw, k_fl, k_cy3, k_cy2, k_cy1, k_cd2, k_cd1, k_w3, k_w20, k_w21, k_w22, k_w23, k_w1T, k_w1F, k_fi, k_fz1, k_fz0, k_fzi, k_fz, k_fv0, k_fv3, k_I, k_B0, k_B1, k_B2, k_B3, k_C, k_E, zenv, zup, ze0, n_add, n_mul, m_st, m_sa, m_ne, m_ss, mm_s, mm_f, mm_ne, mm_ss, mm_sf, Nat.zero_add, u_at, u_ne, if_true, if_false, ite_true, ite_false, reduceIte, and_self, and_true, true_and, or_true, true_or, or_false, false_or, or_self, and_false, false_and, Bool.not_true, Bool.not_false, decide_true, decide_false, ne_eq, n_eqT, n_eqF, n_ltT, n_ltF, n_leT, n_leF, n_z0, n_zF, n_o1, n_oF, n_p0, n_pF, n_lt0, n_ge0, zeq, zne, zlt, zle, zge, zgt, ziadd, zisub, zimul, ziand, zior, zixor, zishl, zishr, ziushr, zidiv, zirem, zmax, zmin, Bool.false_eq_true, not_true_eq_false, not_false_eq_true, Nat.reduceEqDiff, Nat.reduceAdd, Nat.reduceMul, Nat.reduceSub, cntA]
    refine ⟨_, rfl, fun p hp => Or.inl (cZ_in (by omega) (by omega)), ?_, fun i hi => by omega⟩
    have z0 : ∀ k, k ≤ 4096 → cz (cZ (μ (E + 16)) 0 4096) k = 0 := by
      intro k
      induction k with
      | zero => intro _; rfl
      | succ k ih => intro hk; rw [cz, ih (by omega), cZ_in (by omega) (by omega), if_pos rfl]
    rw [z0 4096 (by omega)]
    rfl
theorem cz_Z (g : Nat → Int32) : cz (cZ g 0 4096) 4096 = 0 := by
  have z0 : ∀ k, k ≤ 4096 → cz (cZ g 0 4096) k = 0 := by
    intro k
    induction k with
    | zero => intro _; rfl
    | succ k ih => intro hk; rw [cz, ih (by omega), cZ_in (by omega) (by omega), if_pos rfl]
  exact z0 4096 (by omega)
theorem e_forget : ∀ Q, wr (M_X1_forget E [] μ) Q = Q 0 (zsa (zsa μ E (upd (upd (upd (upd (upd (μ E) 10 (nI 0)) 11 (nI 0)) 12 (nI 0)) 14 (-9)) 15 (-9))) (E + 16) (cZ (μ (E + 16)) 0 4096)) := by
  intro Q
  simp only [M_X1_forget, B_X1_forget]
  simp -implicitDefEqProofs (disch := omega) only [zA0_ap, zA1_ap, zA2_ap, zA3_ap, zA4_ap, zA5_ap, v_fi, v_fz, v_fv, w_k, v_l, v_bin, v_biq, v_ald, v_tb, w_al, w_fd, v_cond, v_call, v_pi, w_an, v_ai, v_aq, v_cmp, v_cm0, w_cb, v_nt, v_and, v_or, w_sk, w_bk, w_cn, w_rv, v_rt, v_sq, v_se, v_ex, v_as, v_az, v_ao, v_pf, v_pz, v_fo, v_if, v_sw, v_lw, v_fl, v_cy, v_cyd, w_lr, wl_some, k_sq0, k_sq1, k_sq2, k_sq3, k_se, k_ex, k_rt, k_l, k_b2, k_b1, k_q2, k_q1, k_ald, k_tb, k_pi, k_condT, k_condF, k_condK, k_call, k_ac, k_ai, k_aq, k_c2, k_c1, k_c0, k_nt, k_andT, k_andF, k_orT, k_orF, k_as2, k_as1, k_az2, k_az1, k_ao2, k_ao1, k_pf, k_pz, k_fo, k_ifT, k_ifF, k_br0, k_br1, k_br2, k_br3, k_s0, k_s1, k_t1, k_s4, k_t4, k_s20, k_t20, zpk_n, zpk_z, zpk_s, k_lw, k_fl, k_cy3, k_cy2, k_cy1, k_cd2, k_cd1, k_w3, k_w20, k_w21, k_w22, k_w23, k_w1T, k_w1F, k_fi, k_fz1, k_fz0, k_fzi, k_fz, k_fv0, k_fv3, k_I, k_B0, k_B1, k_B2, k_B3, k_C, k_E, zenv, zup, ze0, n_add, n_mul, m_st, m_sa, m_ne, m_ss, mm_s, mm_f, mm_ne, mm_ss, mm_sf, Nat.zero_add, u_at, u_ne, if_true, if_false, ite_true, ite_false, reduceIte, and_self, and_true, true_and, or_true, true_or, or_false, false_or, or_self, and_false, false_and, Bool.not_true, Bool.not_false, decide_true, decide_false, ne_eq, n_eqT, n_eqF, n_ltT, n_ltF, n_leT, n_leF, n_z0, n_zF, n_o1, n_oF, n_p0, n_pF, n_lt0, n_ge0, zeq, zne, zlt, zle, zge, zgt, ziadd, zisub, zimul, ziand, zior, zixor, zishl, zishr, ziushr, zidiv, zirem, zmax, zmin, Bool.false_eq_true, not_true_eq_false, not_false_eq_true, Nat.reduceEqDiff, Nat.reduceAdd, Nat.reduceMul, Nat.reduceSub, e_fill0]
def W_hd (m : Nat) : zT := (zwh zFU (zcmp zlt (zl 2) (zk (nI 2048))) (zas (m + 9) 2048 (zl 2) (zk (nI 0))) (zse 2 (zbin ziadd (zl 2) (zk (nI 1)))))
theorem g_heads {ρ : zE} {Q : Nat → Int32 → zE → zM → Prop} (j2 : ρ 2 = some (nI 0)) (H : ∀ ρ', Q 0 0 ρ' (zmm (zsa ν (m + 9) (cZ (ν (m + 9)) 0 2048)) m s f)) : wp (W_hd m) ρ (zmm ν m s f) Q := by
  unfold W_hd
  apply v_for (fun k ρ m' => ρ 2 = some (nI k) ∧ ∃ g : Nat → Int32, g = cZ (ν (m + 9)) 0 k ∧ m' = zmm (zsa ν (m + 9) g) m s f) 2048 (by omega)
  · rintro k ρ m' hk ⟨i2, g, hg, rfl⟩
    simp -implicitDefEqProofs (disch := omega) only [zA0_ap, zA1_ap, zA2_ap, zA3_ap, zA4_ap, zA5_ap, v_fi, v_fz, v_fv, w_k, v_l, v_bin, v_biq, v_ald, v_tb, w_al, w_fd, v_cond, v_call, v_pi, w_an, v_ai, v_aq, v_cmp, v_cm0, w_cb, v_nt, v_and, v_or, w_sk, w_bk, w_cn, w_rv, v_rt, v_sq, v_se, v_ex, v_as, v_az, v_ao, v_pf, v_pz, v_fo, v_if, v_sw, v_lw, v_fl, v_cy, v_cyd, w_lr, wl_some, k_sq0, k_sq1, k_sq2, k_sq3, k_se, k_ex, k_rt, k_l, k_b2, k_b1, k_q2, k_q1, k_ald, k_tb, k_pi, k_condT, k_condF, k_condK, k_call, k_ac, k_ai, k_aq, k_c2, k_c1, k_c0, k_nt, k_andT, k_andF, k_orT, k_orF, k_as2, k_as1, k_az2, k_az1, k_ao2, k_ao1, k_pf, k_pz, k_fo, k_ifT, k_ifF, k_br0, k_br1, k_br2, k_br3, k_s0, k_s1, k_t1, k_s4, k_t4, k_s20, k_t20, zpk_n, zpk_z, zpk_s, k_lw, k_fl, k_cy3, k_cy2, k_cy1, k_cd2, k_cd1, k_w3, k_w20, k_w21, k_w22, k_w23, k_w1T, k_w1F, k_fi, k_fz1, k_fz0, k_fzi, k_fz, k_fv0, k_fv3, k_I, k_B0, k_B1, k_B2, k_B3, k_C, k_E, zenv, zup, ze0, n_add, n_mul, m_st, m_sa, m_ne, m_ss, mm_s, mm_f, mm_ne, mm_ss, mm_sf, Nat.zero_add, u_at, u_ne, if_true, if_false, ite_true, ite_false, reduceIte, and_self, and_true, true_and, or_true, true_or, or_false, false_or, or_self, and_false, false_and, Bool.not_true, Bool.not_false, decide_true, decide_false, ne_eq, n_eqT, n_eqF, n_ltT, n_ltF, n_leT, n_leF, n_z0, n_zF, n_o1, n_oF, n_p0, n_pF, n_lt0, n_ge0, zeq, zne, zlt, zle, zge, zgt, ziadd, zisub, zimul, ziand, zior, zixor, zishl, zishr, ziushr, zidiv, zirem, zmax, zmin, Bool.false_eq_true, not_true_eq_false, not_false_eq_true, Nat.reduceEqDiff, Nat.reduceAdd, Nat.reduceMul, Nat.reduceSub, i2, mm_out]
    refine ⟨_, ?_, rfl⟩
    rw [hg, cZ, Nat.zero_add]
  · rintro ρ m' ⟨i2, g, hg, rfl⟩
    simp -implicitDefEqProofs (disch := omega) only [zA0_ap, zA1_ap, zA2_ap, zA3_ap, zA4_ap, zA5_ap, v_fi, v_fz, v_fv, w_k, v_l, v_bin, v_biq, v_ald, v_tb, w_al, w_fd, v_cond, v_call, v_pi, w_an, v_ai, v_aq, v_cmp, v_cm0, w_cb, v_nt, v_and, v_or, w_sk, w_bk, w_cn, w_rv, v_rt, v_sq, v_se, v_ex, v_as, v_az, v_ao, v_pf, v_pz, v_fo, v_if, v_sw, v_lw, v_fl, v_cy, v_cyd, w_lr, wl_some, k_sq0, k_sq1, k_sq2, k_sq3, k_se, k_ex, k_rt, k_l, k_b2, k_b1, k_q2, k_q1, k_ald, k_tb, k_pi, k_condT, k_condF, k_condK, k_call, k_ac, k_ai, k_aq, k_c2, k_c1, k_c0, k_nt, k_andT, k_andF, k_orT, k_orF, k_as2, k_as1, k_az2, k_az1, k_ao2, k_ao1, k_pf, k_pz, k_fo, k_ifT, k_ifF, k_br0, k_br1, k_br2, k_br3, k_s0, k_s1, k_t1, k_s4, k_t4, k_s20, k_t20, zpk_n, zpk_z, zpk_s, k_lw, k_fl, k_cy3, k_cy2, k_cy1, k_cd2, k_cd1, k_w3, k_w20, k_w21, k_w22, k_w23, k_w1T, k_w1F, k_fi, k_fz1, k_fz0, k_fzi, k_fz, k_fv0, k_fv3, k_I, k_B0, k_B1, k_B2, k_B3, k_C, k_E, zenv, zup, ze0, n_add, n_mul, m_st, m_sa, m_ne, m_ss, mm_s, mm_f, mm_ne, mm_ss, mm_sf, Nat.zero_add, u_at, u_ne, if_true, if_false, ite_true, ite_false, reduceIte, and_self, and_true, true_and, or_true, true_or, or_false, false_or, or_self, and_false, false_and, Bool.not_true, Bool.not_false, decide_true, decide_false, ne_eq, n_eqT, n_eqF, n_ltT, n_ltF, n_leT, n_leF, n_z0, n_zF, n_o1, n_oF, n_p0, n_pF, n_lt0, n_ge0, zeq, zne, zlt, zle, zge, zgt, ziadd, zisub, zimul, ziand, zior, zixor, zishl, zishr, ziushr, zidiv, zirem, zmax, zmin, Bool.false_eq_true, not_true_eq_false, not_false_eq_true, Nat.reduceEqDiff, Nat.reduceAdd, Nat.reduceMul, Nat.reduceSub, i2]
    rw [hg]
    exact H ρ
  · exact ⟨j2, _, rfl, by rw [cZ, m_id]⟩
/-- the first state, on both sides -/
theorem x_init {fx gh : Nat → Int32} (C : Ctx (E + 1) m μ ν) (lt : μ (E + 1) 2 = μ (E + 1 + 1) 7) (W : Wn μ (E + 1) (μ (E + 1 + 8)) s) (f3 : f 3 = nI 0) (x10 : fx 10 = nI 0) (x11 : fx 11 = nI 0) (x12 : fx 12 = nI 0) (hgh : ∀ h, h < 2048 → gh h = nI 0) (y17 : f 17 = nI 0) (y18 : f 18 = nI 0) (y19 : f 19 = nI 0) : ∃ μ' ν', (∀ Q, wr (M_X1_keep E [nI 0, -4] (zsa (zsa μ E fx) (E + 16) (cZ (μ (E + 16)) 0 4096))) Q = Q (nI 0) μ') ∧ (∀ Q, wr (M_X9_keep m [smM s 100, -1, nI 0] (zmm (zsa ν (m + 9) gh) m s f)) Q = Q 0 ν') ∧ XI0 E m 1 0 0 μ' ν' ∧ XRe E 1 0 μ' ∧ deadZ false (μ' (E + 1 + 8)) ∧ FY E J m (zsa μ E fx) (zmm ν m s f) μ' ν' := by
  have pa : PrE E μ (zsa (zsa μ E fx) (E + 16) (cZ (μ (E + 16)) 0 4096)) := fun a a1 a2 => by rw [m_ne (by omega), m_ne (by omega)]
  have Hc : HCl (zsa (zsa μ E fx) (E + 16) (cZ (μ (E + 16)) 0 4096) (E + 16)) (zsa (zsa μ E fx) (E + 16) (cZ (μ (E + 16)) 0 4096) (E + 10)) 0 := by
    rw [m_sa]
    exact ⟨fun p hp => Or.inl (cZ_in (by omega) (by omega)), cz_Z _, fun i hi => by omega⟩
  have a8 : zsa (zsa μ E fx) (E + 16) (cZ (μ (E + 16)) 0 4096) (E + 1 + 8) = μ (E + 1 + 8) := by rw [m_ne (by omega), m_ne (by omega)]
  have aE : zsa (zsa μ E fx) (E + 16) (cZ (μ (E + 16)) 0 4096) E = fx := by rw [m_ne (by omega), m_sa]
  rcases e_keep (ch := -4) (p := 0) Hc (by omega) (by rw [aE]; exact x11) (by omega) with ⟨t, ht, -⟩ | ⟨-, ⟨h, -⟩ | ⟨-, μ', kQ, c1, c2, c3, c4, c5, c6, c7⟩⟩
  · omega
  · omega
  · rw [a8] at c3
    rw [aE] at c2
    have C9 : Ctx (E + 1) m μ (zsa ν (m + 9) gh) := C.cgM (m_ne (by omega))
    obtain ⟨ν3, f3', gQ, p7, p8, p9, p10, p13, p14, p15, p16, q17, qf, qa⟩ := g_keepM (n := 0) (v := smM s 100) (par := -1) (chv := nI 0) C9 W (by omega) y17
    have pc : PrE E μ μ' := fun a a1 a2 => by rw [c1 a (by omega) (by omega) (by omega) (by omega) (by omega) (by omega)]; exact pa a a1 a2
    have e8 : μ' (E + 1 + 8) = μ (E + 1 + 8) := by rw [c1 _ (by omega) (by omega) (by omega) (by omega) (by omega) (by omega)]; exact a8
    have W' : Wn μ' (E + 1) (rC μ' E 0) (rM (zmm ν3 m s f3') m 0) := by
      refine ((pc.wn W).cx (rC_new c3) dead_row).sx ?_
      refine rM_new (ν := zsa ν (m + 9) gh) ?_
      rw [mm_ne (by omega) (by omega)]; exact p7
    refine ⟨μ', zmm ν3 m s f3', kQ, gQ, ⟨⟨(C.cg pc.p).cgM ?_, by rw [pc _ (by omega) (by omega), pc _ (by omega) (by omega)]; exact lt, ?_⟩, ⟨by omega, ?_, ?_, fun i hi => ?_, fun i j hij hj => by omega⟩, ⟨?_, fun i h1 h2 => by omega⟩, fun i hi => ?_, fun j hj => by omega, ⟨?_, 0, by omega, ?_, ?_⟩, ⟨fun i hi => by omega, ?_⟩, ⟨c7, ?_⟩⟩, fun i h1 h2 => by omega, ?_, ?_⟩
    · rw [mm_ne (by omega) (by omega), qa _ (by omega) (by omega) (by omega) (by omega) (by omega) (by omega) (by omega) (by omega) (by omega) (by omega) (by omega) (by omega), m_ne (by omega)]
    · rw [mm_f, qf 3 (by omega) (by omega) (by omega) (by omega)]; exact f3
    · rw [c2, u_at rfl]
    · rw [mm_f]; exact q17
    · obtain rfl : i = 0 := by omega
      exact W'
    · rw [c6, if_pos rfl, u_at rfl]
    · obtain rfl : i = 0 := by omega
      refine ⟨?_, ?_⟩
      · rw [mm_ne (by omega) (by omega), p15, u_at rfl, pc.mk, mkN_cx (rC_new c3)]
      · rw [mm_ne (by omega) (by omega), p16, u_at rfl, cWn_cx (rC_new c3) 6 (by omega)]
    · rw [mm_f, qf 19 (by omega) (by omega) (by omega) (by omega)]; exact y19
    · rw [c2, u_ne (by omega)]; exact x10
    · rw [mm_f, qf 18 (by omega) (by omega) (by omega) (by omega)]; exact y18
    · rw [c2, u_ne (by omega)]; exact x12
    · have H0 : HMo (zsa ν (m + 9) gh) m 0 := ⟨fun i hi => by omega, fun h hh => by rw [m_sa]; exact hgh h hh, fun i hi => by omega⟩
      refine HMo.add (s := s) H0 ?_ ?_ ?_ ?_
      · rw [mm_ne (by omega) (by omega)]; exact p7
      · rw [mm_ne (by omega) (by omega)]; exact p8
      · rw [mm_ne (by omega) (by omega)]; exact p9
      · rw [mm_ne (by omega) (by omega)]; exact p10
    · rw [e8]; exact W.2.1
    · refine ⟨fun a ha => ?_, fun j hj => ?_, fun a ha => ?_, fun j a1 a2 a3 a4 a5 a6 a7 a8 => ?_⟩
      · rw [c1 a (by omega) (by omega) (by omega) (by omega) (by omega) (by omega), m_ne (by omega)]
      · rw [c2, u_ne (by omega), m_sa]
      · rw [mm_ne (by omega) (by omega), mm_ne (by omega) (by omega), qa _ (by omega) (by omega) (by omega) (by omega) (by omega) (by omega) (by omega) (by omega) (by omega) (by omega) (by omega) (by omega), m_ne (by omega)]
      · rw [mm_f, mm_f]; exact qf j a3 a4 a5 a6
end GOT
