/-! CYCLES: the class's search, whole -/
section TA6
variable {g : Nat → Int32} {C E m q1 n a b c d e i j k t u v w x q len op tm al turn : Nat} {F L L' T p o : Nat → Nat} {io io' Nt Nt' : Nat → Prop} {μ μ' m' ν : zM} {ρ : zE} {r : Int32}
theorem TM.tick (M : TM C μ F L T p o io Nt len op tm) (hT : t = T v + 1) : TM C (zsa μ (C + 3) (upd (μ (C + 3)) v (nI t))) F L (un T v t) p o io Nt len op tm := by
  obtain ⟨m1, m2, m3, m4, m5, m6, m7, m8, m9, m10⟩ := M
  refine ⟨fun v hv => by rw [m_ne (by omega)]; exact m1 v hv, fun v hv h0 => by rw [m_ne (by omega)]; exact m2 v hv h0, fun w hw => ?_, fun a ha => by rw [m_ne (by omega)]; exact m4 a ha, fun a ha => by rw [m_ne (by omega)]; exact m5 a ha, fun v hv h0 => by rw [m_ne (by omega)]; exact m6 v hv h0, by rw [m_ne (by omega)]; exact m7, by rw [m_ne (by omega)]; exact m8, by rw [m_ne (by omega)]; exact m9, by rw [m_ne (by omega)]; exact m10⟩
  rw [m_sa]
  by_cases e : w = v
  · rw [e, u_at rfl, un_e]
  · rw [u_ne e, un_n e]; exact m3 w hw
theorem un_id {f : Nat → Nat} : un f k (f k) = f := by
  funext j
  by_cases e : j = k
  · rw [e, un_e]
  · rw [un_n e]
theorem e_try (J : TJ g n F L T p o io Nt len op tm) (n5 : n ≤ 1500) (hc : cD F n = tm) (M : TM C μ F L T p o io Nt len op tm) (hl : 0 < len) (hT : T (p (len - 1)) < 6) (hx : g (p (len - 1) * 6 + T (p (len - 1))) = -4 ∨ ∃ u, u < n ∧ g (p (len - 1) * 6 + T (p (len - 1))) = nI u) : ∃ μ' F' L' T' p' o' io' Nt' len' op' tm', (∀ Q, wr (M_X0_tryNext C [nI (p (len - 1)), g (p (len - 1) * 6 + T (p (len - 1)))] μ) Q = Q 0 μ') ∧ TJ g n F' L' T' p' o' io' Nt' len' op' tm' ∧ TM C μ' F' L' T' p' o' io' Nt' len' op' tm' ∧ frC C μ μ' ∧ 0 < len' ∧ cD F' n = tm' ∧ sT T' n = sT T n + 1 ∧ len' + tm = len + tm' := by
  have J0 := J
  obtain ⟨hln, hop⟩ := J.lens
  have tm5 : tm ≤ n := by rw [← hc]; exact cD_le n
  obtain ⟨t1, t2, t3, t4, t5, t6, t7, t8, t9, t10, t11, t12, t13, t14, t15, t16, t17, t18, t21⟩ := J
  obtain ⟨m1, m2, m3, m4, m5, m6, m7, m8, m9, m10⟩ := id M
  have hv := t1 (len - 1) (by omega)
  have hF := (t7 _ hv.2).2
  have hv5 : p (len - 1) < 1500 := by have := hv.1; omega
  have hLF := (t14 (len - 1) (by omega)).1
  have hFt := t9 (p (len - 1))
  have hsT := sT_un (T := T) (w := p (len - 1)) n
  rw [if_pos hv.1] at hsT
  generalize hvv : p (len - 1) = v at *
  have eT : μ (C + 3) v = nI (T v) := m3 _ hv5
  have eL : μ (C + 2) v = nI (L v) := m2 _ hv5 hF
  have eF : μ (C + 1) v = nI (F v) := m1 _ hv5
  have Mt := M.tick (v := v) (t := T v + 1) rfl
  rcases hx with hx | ⟨u, hu, hx⟩
  · -- nowhere
    have K := J0.tick (l := L v) (Nt' := Nt) n5 hl (by rw [hvv]; exact hT) (by rw [hvv]; exact Nat.le_refl _) (Or.inl (by rw [hvv])) (fun u hu hun => by rw [hvv, hx] at hu; exact absurd hu.symm (m4_n (by omega))) (fun _ h => h) (fun _ h => Or.inl h) (fun h => by rw [hvv, hx] at h; exact absurd h.symm (m4_n (by omega)))
    rw [hvv, un_id] at K
    refine ⟨_, F, L, _, p, o, io, Nt, len, op, tm, fun Q => ?_, K, Mt, fun a ha => m_ne (by omega), hl, hc, hsT, rfl⟩
    simp only [M_X0_tryNext, B_X0_tryNext]
    simp -implicitDefEqProofs (disch := omega) only [zA0_ap, zA1_ap, zA2_ap, zA3_ap, zA4_ap, zA5_ap, v_fi, v_fz, v_fv, w_k, v_l, v_bin, v_biq, v_ald, v_tb, w_al, w_fd, v_cond, v_call, v_pi, w_an, v_ai, v_aq, v_cmp, v_cm0, w_cb, v_nt, v_and, v_or, w_sk, w_bk, w_cn, w_rv, v_rt, v_sq, v_se, v_ex, v_as, v_az, v_ao, v_pf, v_pz, v_fo, v_if, v_sw, v_lw, v_fl, v_cy, v_cyd, w_lr, wl_some, k_sq0, k_sq1, k_sq2, k_sq3, k_se, k_ex, k_rt, k_l, k_b2, k_b1, k_q2, k_q1, k_ald, k_tb, k_pi, k_condT, k_condF, k_condK, k_call, k_ac, k_ai, k_aq, k_c2, k_c1, k_c0, k_nt, k_andT, k_andF, k_orT, k_orF, k_as2, k_as1, k_az2, k_az1, k_ao2, k_ao1, k_pf, k_pz, k_fo, k_ifT, k_ifF, k_br0, k_br1, k_br2, k_br3, k_s0, k_s1, k_t1, k_s4, k_t4, k_s20, k_t20, zpk_n, zpk_z, zpk_s, k_lw, k_fl, k_cy3, k_cy2, k_cy1, k_cd2, k_cd1, k_w3, k_w20, k_w21, k_w22, k_w23, k_w1T, k_w1F, k_fi, k_fz1, k_fz0, k_fzi, k_fz, k_fv0, k_fv3, k_I, k_B0, k_B1, k_B2, k_B3, k_C, k_E, zenv, zup, ze0, n_add, n_mul, m_st, m_sa, m_ne, m_ss, mm_s, mm_f, mm_ne, mm_ss, mm_sf, Nat.zero_add, u_at, u_ne, if_true, if_false, ite_true, ite_false, reduceIte, and_self, and_true, true_and, or_true, true_or, or_false, false_or, or_self, and_false, false_and, Bool.not_true, Bool.not_false, decide_true, decide_false, ne_eq, n_eqT, n_eqF, n_ltT, n_ltF, n_leT, n_leF, n_z0, n_zF, n_o1, n_oF, n_p0, n_pF, n_lt0, n_ge0, zeq, zne, zlt, zle, zge, zgt, ziadd, zisub, zimul, ziand, zior, zixor, zishl, zishr, ziushr, zidiv, zirem, zmax, zmin, Bool.false_eq_true, not_true_eq_false, not_false_eq_true, Nat.reduceEqDiff, Nat.reduceAdd, Nat.reduceMul, Nat.reduceSub, eT, hx]
  · have hu5 : u < 1500 := by omega
    have eFu : μ (C + 1) u = nI (F u) := m1 _ hu5
    have nu : ¬ nI u = -4 := m4_n (by omega)
    have inj : ∀ y, nI u = nI y → y < n → y = u := fun y h hy => ((n_eq (by omega) (by omega)).mp h).symm
    by_cases euv : u = v
    · -- to itself
      subst euv
      obtain ⟨r', n1, n2⟩ := e_note (C := C) (μ := zsa μ (C + 3) (upd (μ (C + 3)) u (nI (T u + 1)))) (by rw [m_ne (by omega)]; exact m10) hu5
      have K := J0.tick (l := L u) (Nt' := fun x => Nt x ∨ x = u) n5 hl (by rw [hvv]; exact hT) (by rw [hvv]; exact Nat.le_refl _) (Or.inl (by rw [hvv])) (fun y hy hyn => by rw [hvv, hx] at hy; rw [inj y hy hyn]; exact ⟨hF, fun _ => hLF⟩) (fun _ h => Or.inl h) (fun w h => h.elim Or.inl (fun z => Or.inr ⟨by rw [hvv]; exact z, by rw [hvv, hx, z]⟩)) (fun _ => by rw [hvv]; exact Or.inr rfl)
      rw [hvv, un_id] at K
      refine ⟨_, F, L, _, p, o, io, _, len, op, tm, fun Q => ?_, K, (?_ : TM C (zsa (zsa μ (C + 3) (upd (μ (C + 3)) u (nI (T u + 1)))) C (upd (zsa μ (C + 3) (upd (μ (C + 3)) u (nI (T u + 1))) C) 9 r')) F L (un T u (T u + 1)) p o io (fun x => Nt x ∨ x = u) len op tm), fun a ha => by rw [m_ne (by omega), m_ne (by omega)], hl, hc, hsT, rfl⟩
      · simp only [M_X0_tryNext, B_X0_tryNext]
        simp -implicitDefEqProofs (disch := omega) only [zA0_ap, zA1_ap, zA2_ap, zA3_ap, zA4_ap, zA5_ap, v_fi, v_fz, v_fv, w_k, v_l, v_bin, v_biq, v_ald, v_tb, w_al, w_fd, v_cond, v_call, v_pi, w_an, v_ai, v_aq, v_cmp, v_cm0, w_cb, v_nt, v_and, v_or, w_sk, w_bk, w_cn, w_rv, v_rt, v_sq, v_se, v_ex, v_as, v_az, v_ao, v_pf, v_pz, v_fo, v_if, v_sw, v_lw, v_fl, v_cy, v_cyd, w_lr, wl_some, k_sq0, k_sq1, k_sq2, k_sq3, k_se, k_ex, k_rt, k_l, k_b2, k_b1, k_q2, k_q1, k_ald, k_tb, k_pi, k_condT, k_condF, k_condK, k_call, k_ac, k_ai, k_aq, k_c2, k_c1, k_c0, k_nt, k_andT, k_andF, k_orT, k_orF, k_as2, k_as1, k_az2, k_az1, k_ao2, k_ao1, k_pf, k_pz, k_fo, k_ifT, k_ifF, k_br0, k_br1, k_br2, k_br3, k_s0, k_s1, k_t1, k_s4, k_t4, k_s20, k_t20, zpk_n, zpk_z, zpk_s, k_lw, k_fl, k_cy3, k_cy2, k_cy1, k_cd2, k_cd1, k_w3, k_w20, k_w21, k_w22, k_w23, k_w1T, k_w1F, k_fi, k_fz1, k_fz0, k_fzi, k_fz, k_fv0, k_fv3, k_I, k_B0, k_B1, k_B2, k_B3, k_C, k_E, zenv, zup, ze0, n_add, n_mul, m_st, m_sa, m_ne, m_ss, mm_s, mm_f, mm_ne, mm_ss, mm_sf, Nat.zero_add, u_at, u_ne, if_true, if_false, ite_true, ite_false, reduceIte, and_self, and_true, true_and, or_true, true_or, or_false, false_or, or_self, and_false, false_and, Bool.not_true, Bool.not_false, decide_true, decide_false, ne_eq, n_eqT, n_eqF, n_ltT, n_ltF, n_leT, n_leF, n_z0, n_zF, n_o1, n_oF, n_p0, n_pF, n_lt0, n_ge0, zeq, zne, zlt, zle, zge, zgt, ziadd, zisub, zimul, ziand, zior, zixor, zishl, zishr, ziushr, zidiv, zirem, zmax, zmin, Bool.false_eq_true, not_true_eq_false, not_false_eq_true, Nat.reduceEqDiff, Nat.reduceAdd, Nat.reduceMul, Nat.reduceSub, eT, hx, nu]
        have n1 := n1 (Kex (zup (zup ze0 2 (nI u)) 1 (nI u)) (Kfv Q))
        simp (disch := omega) only [m_ne] at n1
        simp -implicitDefEqProofs (disch := omega) only [zA0_ap, zA1_ap, zA2_ap, zA3_ap, zA4_ap, zA5_ap, v_fi, v_fz, v_fv, w_k, v_l, v_bin, v_biq, v_ald, v_tb, w_al, w_fd, v_cond, v_call, v_pi, w_an, v_ai, v_aq, v_cmp, v_cm0, w_cb, v_nt, v_and, v_or, w_sk, w_bk, w_cn, w_rv, v_rt, v_sq, v_se, v_ex, v_as, v_az, v_ao, v_pf, v_pz, v_fo, v_if, v_sw, v_lw, v_fl, v_cy, v_cyd, w_lr, wl_some, k_sq0, k_sq1, k_sq2, k_sq3, k_se, k_ex, k_rt, k_l, k_b2, k_b1, k_q2, k_q1, k_ald, k_tb, k_pi, k_condT, k_condF, k_condK, k_call, k_ac, k_ai, k_aq, k_c2, k_c1, k_c0, k_nt, k_andT, k_andF, k_orT, k_orF, k_as2, k_as1, k_az2, k_az1, k_ao2, k_ao1, k_pf, k_pz, k_fo, k_ifT, k_ifF, k_br0, k_br1, k_br2, k_br3, k_s0, k_s1, k_t1, k_s4, k_t4, k_s20, k_t20, zpk_n, zpk_z, zpk_s, k_lw, k_fl, k_cy3, k_cy2, k_cy1, k_cd2, k_cd1, k_w3, k_w20, k_w21, k_w22, k_w23, k_w1T, k_w1F, k_fi, k_fz1, k_fz0, k_fzi, k_fz, k_fv0, k_fv3, k_I, k_B0, k_B1, k_B2, k_B3, k_C, k_E, zenv, zup, ze0, n_add, n_mul, m_st, m_sa, m_ne, m_ss, mm_s, mm_f, mm_ne, mm_ss, mm_sf, Nat.zero_add, u_at, u_ne, if_true, if_false, ite_true, ite_false, reduceIte, and_self, and_true, true_and, or_true, true_or, or_false, false_or, or_self, and_false, false_and, Bool.not_true, Bool.not_false, decide_true, decide_false, ne_eq, n_eqT, n_eqF, n_ltT, n_ltF, n_leT, n_leF, n_z0, n_zF, n_o1, n_oF, n_p0, n_pF, n_lt0, n_ge0, zeq, zne, zlt, zle, zge, zgt, ziadd, zisub, zimul, ziand, zior, zixor, zishl, zishr, ziushr, zidiv, zirem, zmax, zmin, Bool.false_eq_true, not_true_eq_false, not_false_eq_true, Nat.reduceEqDiff, Nat.reduceAdd, Nat.reduceMul, Nat.reduceSub, n1]
      · obtain ⟨p1, p2, p3, p4, p5, p6, p7, p8, p9, -⟩ := Mt
        refine ⟨fun v hv => by rw [m_ne (by omega)]; exact p1 v hv, fun v hv h0 => by rw [m_ne (by omega)]; exact p2 v hv h0, fun v hv => by rw [m_ne (by omega)]; exact p3 v hv, fun a ha => by rw [m_ne (by omega)]; exact p4 a ha, fun a ha => by rw [m_ne (by omega)]; exact p5 a ha, fun v hv h0 => by rw [m_ne (by omega)]; exact p6 v hv h0, by rw [m_sa, u_ne (by omega)]; exact p7, by rw [m_sa, u_ne (by omega)]; exact p8, by rw [m_sa, u_ne (by omega)]; exact p9, by rw [m_sa, u_at rfl]; exact n2⟩
    · by_cases h0 : F u = 0
      · -- a new state
        have htn : tm < n := by rw [← hc]; exact cD_lt h0 n hu
        obtain ⟨μ', d1, d2, d3⟩ := e_discover Mt (w := u) hu5 (by omega) (by omega) (by omega)
        have K := J0.disc n5 hl (by rw [hvv]; exact hT) hu h0 (by rw [hvv]; exact hx)
        rw [hvv] at K
        refine ⟨μ', _, _, _, _, _, _, _, _, _, _, fun Q => ?_, K, d2, fun a ha => by rw [d3 a ha, m_ne (by omega)], by omega, ?_, hsT, by omega⟩
        · simp only [M_X0_tryNext, B_X0_tryNext]
          simp -implicitDefEqProofs (disch := omega) only [zA0_ap, zA1_ap, zA2_ap, zA3_ap, zA4_ap, zA5_ap, v_fi, v_fz, v_fv, w_k, v_l, v_bin, v_biq, v_ald, v_tb, w_al, w_fd, v_cond, v_call, v_pi, w_an, v_ai, v_aq, v_cmp, v_cm0, w_cb, v_nt, v_and, v_or, w_sk, w_bk, w_cn, w_rv, v_rt, v_sq, v_se, v_ex, v_as, v_az, v_ao, v_pf, v_pz, v_fo, v_if, v_sw, v_lw, v_fl, v_cy, v_cyd, w_lr, wl_some, k_sq0, k_sq1, k_sq2, k_sq3, k_se, k_ex, k_rt, k_l, k_b2, k_b1, k_q2, k_q1, k_ald, k_tb, k_pi, k_condT, k_condF, k_condK, k_call, k_ac, k_ai, k_aq, k_c2, k_c1, k_c0, k_nt, k_andT, k_andF, k_orT, k_orF, k_as2, k_as1, k_az2, k_az1, k_ao2, k_ao1, k_pf, k_pz, k_fo, k_ifT, k_ifF, k_br0, k_br1, k_br2, k_br3, k_s0, k_s1, k_t1, k_s4, k_t4, k_s20, k_t20, zpk_n, zpk_z, zpk_s, k_lw, k_fl, k_cy3, k_cy2, k_cy1, k_cd2, k_cd1, k_w3, k_w20, k_w21, k_w22, k_w23, k_w1T, k_w1F, k_fi, k_fz1, k_fz0, k_fzi, k_fz, k_fv0, k_fv3, k_I, k_B0, k_B1, k_B2, k_B3, k_C, k_E, zenv, zup, ze0, n_add, n_mul, m_st, m_sa, m_ne, m_ss, mm_s, mm_f, mm_ne, mm_ss, mm_sf, Nat.zero_add, u_at, u_ne, if_true, if_false, ite_true, ite_false, reduceIte, and_self, and_true, true_and, or_true, true_or, or_false, false_or, or_self, and_false, false_and, Bool.not_true, Bool.not_false, decide_true, decide_false, ne_eq, n_eqT, n_eqF, n_ltT, n_ltF, n_leT, n_leF, n_z0, n_zF, n_o1, n_oF, n_p0, n_pF, n_lt0, n_ge0, zeq, zne, zlt, zle, zge, zgt, ziadd, zisub, zimul, ziand, zior, zixor, zishl, zishr, ziushr, zidiv, zirem, zmax, zmin, Bool.false_eq_true, not_true_eq_false, not_false_eq_true, Nat.reduceEqDiff, Nat.reduceAdd, Nat.reduceMul, Nat.reduceSub, eT, hx, nu, euv, eFu, h0, d1]
        · rw [cD_un h0 (by omega), if_pos hu, hc]
      · have h0' : 0 < F u := by omega
        have eI : μ (C + 6) u = nI (b01 (io u)) := m6 _ hu5 h0'
        have hFu := t9 u
        by_cases hio : io u
        · -- an open one
          rw [b01_T hio] at eI
          have zm := z_min (a := L v) (b := F u) (by omega) (by omega)
          have K := J0.tick (l := min (L v) (F u)) (Nt' := Nt) n5 hl (by rw [hvv]; exact hT) (by rw [hvv]; exact Nat.min_le_left _ _) (by
            rw [hvv]
            by_cases hm : L v ≤ F u
            · exact Or.inl (Nat.min_eq_left hm)
            · exact Or.inr ⟨u, hio, by rw [Nat.min_eq_right (by omega)], hu5, T v, hT, hx⟩) (fun y hy hyn => by rw [hvv, hx] at hy; rw [inj y hy hyn]; exact ⟨h0', fun _ => Nat.min_le_right _ _⟩) (fun _ h => h) (fun _ h => Or.inl h) (fun h => by rw [hvv, hx] at h; exact absurd (inj v h hv.1).symm euv)
          rw [hvv] at K
          refine ⟨_, F, _, _, p, o, io, Nt, len, op, tm, fun Q => ?_, K, (?_ : TM C (zsa (zsa μ (C + 3) (upd (μ (C + 3)) v (nI (T v + 1)))) (C + 2) (upd (μ (C + 2)) v (nI (min (L v) (F u))))) F (un L v (min (L v) (F u))) (un T v (T v + 1)) p o io Nt len op tm), fun a ha => by rw [m_ne (by omega), m_ne (by omega)], hl, hc, hsT, rfl⟩
          · simp only [M_X0_tryNext, B_X0_tryNext]
            simp -implicitDefEqProofs (disch := omega) only [zA0_ap, zA1_ap, zA2_ap, zA3_ap, zA4_ap, zA5_ap, v_fi, v_fz, v_fv, w_k, v_l, v_bin, v_biq, v_ald, v_tb, w_al, w_fd, v_cond, v_call, v_pi, w_an, v_ai, v_aq, v_cmp, v_cm0, w_cb, v_nt, v_and, v_or, w_sk, w_bk, w_cn, w_rv, v_rt, v_sq, v_se, v_ex, v_as, v_az, v_ao, v_pf, v_pz, v_fo, v_if, v_sw, v_lw, v_fl, v_cy, v_cyd, w_lr, wl_some, k_sq0, k_sq1, k_sq2, k_sq3, k_se, k_ex, k_rt, k_l, k_b2, k_b1, k_q2, k_q1, k_ald, k_tb, k_pi, k_condT, k_condF, k_condK, k_call, k_ac, k_ai, k_aq, k_c2, k_c1, k_c0, k_nt, k_andT, k_andF, k_orT, k_orF, k_as2, k_as1, k_az2, k_az1, k_ao2, k_ao1, k_pf, k_pz, k_fo, k_ifT, k_ifF, k_br0, k_br1, k_br2, k_br3, k_s0, k_s1, k_t1, k_s4, k_t4, k_s20, k_t20, zpk_n, zpk_z, zpk_s, k_lw, k_fl, k_cy3, k_cy2, k_cy1, k_cd2, k_cd1, k_w3, k_w20, k_w21, k_w22, k_w23, k_w1T, k_w1F, k_fi, k_fz1, k_fz0, k_fzi, k_fz, k_fv0, k_fv3, k_I, k_B0, k_B1, k_B2, k_B3, k_C, k_E, zenv, zup, ze0, n_add, n_mul, m_st, m_sa, m_ne, m_ss, mm_s, mm_f, mm_ne, mm_ss, mm_sf, Nat.zero_add, u_at, u_ne, if_true, if_false, ite_true, ite_false, reduceIte, and_self, and_true, true_and, or_true, true_or, or_false, false_or, or_self, and_false, false_and, Bool.not_true, Bool.not_false, decide_true, decide_false, ne_eq, n_eqT, n_eqF, n_ltT, n_ltF, n_leT, n_leF, n_z0, n_zF, n_o1, n_oF, n_p0, n_pF, n_lt0, n_ge0, zeq, zne, zlt, zle, zge, zgt, ziadd, zisub, zimul, ziand, zior, zixor, zishl, zishr, ziushr, zidiv, zirem, zmax, zmin, Bool.false_eq_true, not_true_eq_false, not_false_eq_true, Nat.reduceEqDiff, Nat.reduceAdd, Nat.reduceMul, Nat.reduceSub, eT, hx, nu, euv, eFu, h0', eI, eL, zm]
          · obtain ⟨p1, p2, p3, p4, p5, p6, p7, p8, p9, p10⟩ := Mt
            refine ⟨fun v hv => by rw [m_ne (by omega)]; exact p1 v hv, fun w hw hw0 => ?_, fun v hv => by rw [m_ne (by omega)]; exact p3 v hv, fun a ha => by rw [m_ne (by omega)]; exact p4 a ha, fun a ha => by rw [m_ne (by omega)]; exact p5 a ha, fun v hv h0 => by rw [m_ne (by omega)]; exact p6 v hv h0, by rw [m_ne (by omega)]; exact p7, by rw [m_ne (by omega)]; exact p8, by rw [m_ne (by omega)]; exact p9, by rw [m_ne (by omega)]; exact p10⟩
            rw [m_sa]
            by_cases e : w = v
            · rw [e, u_at rfl, un_e]
            · rw [u_ne e, un_n e]; exact m2 w hw hw0
        · -- a closed one
          rw [b01_F hio] at eI
          have K := J0.tick (l := L v) (Nt' := Nt) n5 hl (by rw [hvv]; exact hT) (by rw [hvv]; exact Nat.le_refl _) (Or.inl (by rw [hvv])) (fun y hy hyn => by rw [hvv, hx] at hy; rw [inj y hy hyn]; exact ⟨h0', fun z => absurd z hio⟩) (fun _ h => h) (fun _ h => Or.inl h) (fun h => by rw [hvv, hx] at h; exact absurd (inj v h hv.1).symm euv)
          rw [hvv, un_id] at K
          refine ⟨_, F, L, _, p, o, io, Nt, len, op, tm, fun Q => ?_, K, Mt, fun a ha => m_ne (by omega), hl, hc, hsT, rfl⟩
          simp only [M_X0_tryNext, B_X0_tryNext]
          simp -implicitDefEqProofs (disch := omega) only [zA0_ap, zA1_ap, zA2_ap, zA3_ap, zA4_ap, zA5_ap, v_fi, v_fz, v_fv, w_k, v_l, v_bin, v_biq, v_ald, v_tb, w_al, w_fd, v_cond, v_call, v_pi, w_an, v_ai, v_aq, v_cmp, v_cm0, w_cb, v_nt, v_and, v_or, w_sk, w_bk, w_cn, w_rv, v_rt, v_sq, v_se, v_ex, v_as, v_az, v_ao, v_pf, v_pz, v_fo, v_if, v_sw, v_lw, v_fl, v_cy, v_cyd, w_lr, wl_some, k_sq0, k_sq1, k_sq2, k_sq3, k_se, k_ex, k_rt, k_l, k_b2, k_b1, k_q2, k_q1, k_ald, k_tb, k_pi, k_condT, k_condF, k_condK, k_call, k_ac, k_ai, k_aq, k_c2, k_c1, k_c0, k_nt, k_andT, k_andF, k_orT, k_orF, k_as2, k_as1, k_az2, k_az1, k_ao2, k_ao1, k_pf, k_pz, k_fo, k_ifT, k_ifF, k_br0, k_br1, k_br2, k_br3, k_s0, k_s1, k_t1, k_s4, k_t4, k_s20, k_t20, zpk_n, zpk_z, zpk_s, k_lw, k_fl, k_cy3, k_cy2, k_cy1, k_cd2, k_cd1, k_w3, k_w20, k_w21, k_w22, k_w23, k_w1T, k_w1F, k_fi, k_fz1, k_fz0, k_fzi, k_fz, k_fv0, k_fv3, k_I, k_B0, k_B1, k_B2, k_B3, k_C, k_E, zenv, zup, ze0, n_add, n_mul, m_st, m_sa, m_ne, m_ss, mm_s, mm_f, mm_ne, mm_ss, mm_sf, Nat.zero_add, u_at, u_ne, if_true, if_false, ite_true, ite_false, reduceIte, and_self, and_true, true_and, or_true, true_or, or_false, false_or, or_self, and_false, false_and, Bool.not_true, Bool.not_false, decide_true, decide_false, ne_eq, n_eqT, n_eqF, n_ltT, n_ltF, n_leT, n_leF, n_z0, n_zF, n_o1, n_oF, n_p0, n_pF, n_lt0, n_ge0, zeq, zne, zlt, zle, zge, zgt, ziadd, zisub, zimul, ziand, zior, zixor, zishl, zishr, ziushr, zidiv, zirem, zmax, zmin, Bool.false_eq_true, not_true_eq_false, not_false_eq_true, Nat.reduceEqDiff, Nat.reduceAdd, Nat.reduceMul, Nat.reduceSub, eT, hx, nu, euv, eFu, h0', eI]
end TA6
