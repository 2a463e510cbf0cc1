/-! CYCLES: a turn of the class's search -/
section TA5
variable {g : Nat → Int32} {C q1 n a b c d e i j k t u v w x q len op tm al turn : Nat} {F L L' T p o : Nat → Nat} {io io' Nt Nt' : Nat → Prop} {μ μ' m' : zM} {ρ : zE} {r : Int32}
theorem z_min {a b : Nat} (ha : a < 2147483648) (hb : b < 2147483648) : (if nI b < nI a then nI b else nI a) = nI (min a b) := by
  by_cases h : b < a
  · rw [if_pos ((n_lt hb ha).mpr h), Nat.min_eq_right (by omega)]
  · rw [if_neg (fun q => h ((n_lt hb ha).mp q)), Nat.min_eq_left (by omega)]
theorem e_close2 (J : TJ g n F L T p o io Nt len op tm) (n5 : n ≤ 1500) (M : TM C μ F L' T p o io Nt (len - 1) op tm) (hl : 0 < len) (tm5 : tm ≤ 1500) : ∃ μ' q, q < op ∧ o q = p (len - 1) ∧ (∀ Q, wr (M_X0_close C [nI (p (len - 1))] μ) Q = Q 0 μ') ∧ TM C μ' F L' T p o (fun x => io x ∧ F x < F (p (len - 1))) (fun x => Nt x ∨ (q ≠ op - 1 ∧ io x ∧ F (p (len - 1)) ≤ F x)) (len - 1) q tm ∧ frC C μ μ' := by
  have hop := J.lens.2
  obtain ⟨t1, t2, t3, t4, t5, t6, t7, t8, t9, -⟩ := J
  have hv := t1 (len - 1) (by omega)
  obtain ⟨q, hq, ho⟩ := t6 _ hv.2
  have mo : ∀ a b, a < op → b < op → F (o a) < F (o b) → a < b := fun a b ha hb h => by
    rcases (show a < b ∨ a = b ∨ b < a by omega) with h1 | h1 | h1
    · exact h1
    · rw [h1] at h; omega
    · have := t5 b a h1 ha; omega
  obtain ⟨μ', k1, k2, k3⟩ := e_close M hq ho (by omega) (fun a ha => ⟨by have := (t4 a ha).1; omega, (t7 _ (t4 a ha).2).2⟩) (fun a b ha hb e => by
    rcases (show a < b ∨ a = b ∨ b < a by omega) with h1 | h1 | h1
    · have := t5 a b h1 hb; rw [e] at this; omega
    · exact h1
    · have := t5 b a h1 ha; rw [e] at this; omega)
  have ex : ∀ x, io x → ((∃ a, q ≤ a ∧ a < op ∧ o a = x) ↔ F (p (len - 1)) ≤ F x) := by
    intro x hx
    constructor
    · rintro ⟨a, h1, h2, rfl⟩
      by_cases e : a = q
      · rw [e, ho]; exact Nat.le_refl _
      · have := t5 q a (by omega) h2
        rw [ho] at this
        omega
    · intro h
      obtain ⟨a, ha, e⟩ := t6 x hx
      refine ⟨a, ?_, ha, e⟩
      by_cases h2 : q ≤ a
      · exact h2
      · have := t5 a q (by omega) hq
        rw [ho, e] at this
        omega
  refine ⟨μ', q, hq, ho, k1, k2.cg (fun x => ?_) (fun x => ?_), k3⟩
  · refine and_congr_right fun hx => ?_
    rw [ex x hx]
    omega
  · refine or_congr_right (and_congr_right fun _ => ?_)
    constructor
    · intro h
      have hx : io x := by
        obtain ⟨a, -, h2, rfl⟩ := h
        exact (t4 a h2).2
      exact ⟨hx, (ex x hx).mp h⟩
    · rintro ⟨h1, h2⟩
      exact (ex x h1).mpr h2
theorem e_leave (J : TJ g n F L T p o io Nt len op tm) (hg : ∀ a b, a < n → edg g a b → b < n) (n5 : n ≤ 1500) (tm5 : tm ≤ 1500) (M : TM C μ F L T p o io Nt len op tm) (hl : 0 < len) (hT : T (p (len - 1)) = 6) : ∃ μ' L' op' io' Nt', (∀ Q, wr (M_X0_leave C [nI (p (len - 1))] μ) Q = Q 0 μ') ∧ TJ g n F L' T p o io' Nt' (len - 1) op' tm ∧ TM C μ' F L' T p o io' Nt' (len - 1) op' tm ∧ frC C μ μ' ∧ (len - 1 = 0 → ∀ x, ¬ io' x) := by
  have J0 := J
  have hln := J.lens.1
  obtain ⟨t1, t2, t3, t4, t5, t6, t7, t8, t9, t10, t11, t12, t13, t14, t15, t16, t17, t18, t21⟩ := J
  obtain ⟨m1, m2, m3, m4, m5, m6, m7, m8, m9, m10⟩ := id M
  have hv := t1 (len - 1) (by omega)
  have hF := (t7 _ hv.2).2
  have hv5 : p (len - 1) < 1500 := by have := hv.1; omega
  have hLF := (t14 (len - 1) (by omega)).1
  have hFt := t9 (p (len - 1))
  have eL : μ (C + 2) (p (len - 1)) = nI (L (p (len - 1))) := m2 _ hv5 hF
  have eF : μ (C + 1) (p (len - 1)) = nI (F (p (len - 1))) := m1 _ hv5
  by_cases h1 : len = 1
  · -- the first state is left
    have hLe : L (p (len - 1)) = F (p (len - 1)) := by
      rcases (show L (p (len - 1)) = F (p (len - 1)) ∨ L (p (len - 1)) < F (p (len - 1)) by omega) with h | h
      · exact h
      · have := J0.len2 hl h; omega
    have Ma : TM C (zsa μ C (upd (μ C) 7 (nI (len - 1)))) F L T p o io Nt (len - 1) op tm := by
      refine ⟨fun v hv => by rw [m_ne (by omega)]; exact m1 v hv, fun v hv h0 => by rw [m_ne (by omega)]; exact m2 v hv h0, fun v hv => by rw [m_ne (by omega)]; exact m3 v hv, fun a ha => by rw [m_ne (by omega)]; exact m4 a (by omega), fun a ha => by rw [m_ne (by omega)]; exact m5 a ha, fun v hv h0 => by rw [m_ne (by omega)]; exact m6 v hv h0, by rw [m_sa, u_ne (by omega)]; exact m7, by rw [m_sa, u_at rfl], by rw [m_sa, u_ne (by omega)]; exact m9, by rw [m_sa, u_ne (by omega)]; exact m10⟩
    obtain ⟨μ', q, hq, ho, k1, k2, k3⟩ := e_close2 J0 n5 Ma hl tm5
    refine ⟨μ', L, q, _, _, fun Q => ?_, J0.close hg hl hT hLe (fun _ _ => rfl) hq ho, k2, fun a ha => by rw [k3 a ha, m_ne (by omega)], fun _ x hx => ?_⟩
    · simp only [M_X0_leave, B_X0_leave]
      have e0 : len - 1 = 0 := by omega
      rw [hLe] at eL
      simp -implicitDefEqProofs (disch := omega) only [zA0_ap, zA1_ap, zA2_ap, zA3_ap, zA4_ap, zA5_ap, v_fi, v_fz, v_fv, w_k, v_l, v_bin, v_biq, v_ald, v_tb, w_al, w_fd, v_cond, v_call, v_pi, w_an, v_ai, v_aq, v_cmp, v_cm0, w_cb, v_nt, v_and, v_or, w_sk, w_bk, w_cn, w_rv, v_rt, v_sq, v_se, v_ex, v_as, v_az, v_ao, v_pf, v_pz, v_fo, v_if, v_sw, v_lw, v_fl, v_cy, v_cyd, w_lr, wl_some, k_sq0, k_sq1, k_sq2, k_sq3, k_se, k_ex, k_rt, k_l, k_b2, k_b1, k_q2, k_q1, k_ald, k_tb, k_pi, k_condT, k_condF, k_condK, k_call, k_ac, k_ai, k_aq, k_c2, k_c1, k_c0, k_nt, k_andT, k_andF, k_orT, k_orF, k_as2, k_as1, k_az2, k_az1, k_ao2, k_ao1, k_pf, k_pz, k_fo, k_ifT, k_ifF, k_br0, k_br1, k_br2, k_br3, k_s0, k_s1, k_t1, k_s4, k_t4, k_s20, k_t20, zpk_n, zpk_z, zpk_s, k_lw, k_fl, k_cy3, k_cy2, k_cy1, k_cd2, k_cd1, k_w3, k_w20, k_w21, k_w22, k_w23, k_w1T, k_w1F, k_fi, k_fz1, k_fz0, k_fzi, k_fz, k_fv0, k_fv3, k_I, k_B0, k_B1, k_B2, k_B3, k_C, k_E, zenv, zup, ze0, n_add, n_mul, m_st, m_sa, m_ne, m_ss, mm_s, mm_f, mm_ne, mm_ss, mm_sf, Nat.zero_add, u_at, u_ne, if_true, if_false, ite_true, ite_false, reduceIte, and_self, and_true, true_and, or_true, true_or, or_false, false_or, or_self, and_false, false_and, Bool.not_true, Bool.not_false, decide_true, decide_false, ne_eq, n_eqT, n_eqF, n_ltT, n_ltF, n_leT, n_leF, n_z0, n_zF, n_o1, n_oF, n_p0, n_pF, n_lt0, n_ge0, zeq, zne, zlt, zle, zge, zgt, ziadd, zisub, zimul, ziand, zior, zixor, zishl, zishr, ziushr, zidiv, zirem, zmax, zmin, Bool.false_eq_true, not_true_eq_false, not_false_eq_true, Nat.reduceEqDiff, Nat.reduceAdd, Nat.reduceMul, Nat.reduceSub, m8, n_sub, show ¬ 0 < len - 1 by omega, eL, eF, k1]
    · obtain ⟨p0, F0⟩ := t17.2 hl
      have := hx.2
      have h7 := (t7 x hx.1).2
      rw [show len - 1 = 0 by omega, p0, F0] at this
      omega
  · -- another one
    have hb := t1 (len - 2) (by omega)
    have hb5 : p (len - 2) < 1500 := by have := hb.1; omega
    have hFb := (t7 _ hb.2).2
    have hne : p (len - 2) ≠ p (len - 1) := fun e => by
      have := t2 (len - 2) (len - 1) (by omega) (by omega)
      rw [e] at this
      omega
    have hbb := t2 (len - 2) (len - 1) (by omega) (by omega)
    have hLb := (t14 (len - 2) (by omega)).1
    have eB : μ (C + 2) (p (len - 2)) = nI (L (p (len - 2))) := m2 _ hb5 hFb
    have eP : μ (C + 4) (len - 1 - 1) = nI (p (len - 2)) := by rw [show len - 1 - 1 = len - 2 by omega]; exact m4 _ (by omega)
    have zm := z_min (a := L (p (len - 2))) (b := L (p (len - 1))) (by omega) (by omega)
    have Ma : TM C (zsa (zsa μ C (upd (μ C) 7 (nI (len - 1)))) (C + 2) (upd (μ (C + 2)) (p (len - 2)) (nI (min (L (p (len - 2))) (L (p (len - 1))))))) F (un L (p (len - 2)) (min (L (p (len - 2))) (L (p (len - 1))))) T p o io Nt (len - 1) op tm := by
      refine ⟨fun v hv => by rw [m_ne (by omega), m_ne (by omega)]; exact m1 v hv, fun v hv h0 => ?_, fun v hv => by rw [m_ne (by omega), m_ne (by omega)]; exact m3 v hv, fun a ha => by rw [m_ne (by omega), m_ne (by omega)]; exact m4 a (by omega), fun a ha => by rw [m_ne (by omega), m_ne (by omega)]; exact m5 a ha, fun v hv h0 => by rw [m_ne (by omega), m_ne (by omega)]; exact m6 v hv h0, by rw [m_ne (by omega), m_sa, u_ne (by omega)]; exact m7, by rw [m_ne (by omega), m_sa, u_at rfl], by rw [m_ne (by omega), m_sa, u_ne (by omega)]; exact m9, by rw [m_ne (by omega), m_sa, u_ne (by omega)]; exact m10⟩
      rw [m_sa]
      by_cases e : v = p (len - 2)
      · rw [e, u_at rfl, un_e]
      · rw [u_ne e, un_n e]; exact m2 v hv h0
    by_cases hLe : L (p (len - 1)) = F (p (len - 1))
    · obtain ⟨μ', q, hq, ho, k1, k2, k3⟩ := e_close2 J0 n5 Ma hl tm5
      refine ⟨μ', _, q, _, _, fun Q => ?_, J0.close hg hl hT hLe (fun a ha => ?_) hq ho, k2, fun a ha => by rw [k3 a ha, m_ne (by omega), m_ne (by omega)], fun z => by omega⟩
      · simp only [M_X0_leave, B_X0_leave]
        rw [hLe, Nat.min_eq_left (by omega)] at k1
        rw [hLe] at eL
        simp -implicitDefEqProofs (disch := omega) only [zA0_ap, zA1_ap, zA2_ap, zA3_ap, zA4_ap, zA5_ap, v_fi, v_fz, v_fv, w_k, v_l, v_bin, v_biq, v_ald, v_tb, w_al, w_fd, v_cond, v_call, v_pi, w_an, v_ai, v_aq, v_cmp, v_cm0, w_cb, v_nt, v_and, v_or, w_sk, w_bk, w_cn, w_rv, v_rt, v_sq, v_se, v_ex, v_as, v_az, v_ao, v_pf, v_pz, v_fo, v_if, v_sw, v_lw, v_fl, v_cy, v_cyd, w_lr, wl_some, k_sq0, k_sq1, k_sq2, k_sq3, k_se, k_ex, k_rt, k_l, k_b2, k_b1, k_q2, k_q1, k_ald, k_tb, k_pi, k_condT, k_condF, k_condK, k_call, k_ac, k_ai, k_aq, k_c2, k_c1, k_c0, k_nt, k_andT, k_andF, k_orT, k_orF, k_as2, k_as1, k_az2, k_az1, k_ao2, k_ao1, k_pf, k_pz, k_fo, k_ifT, k_ifF, k_br0, k_br1, k_br2, k_br3, k_s0, k_s1, k_t1, k_s4, k_t4, k_s20, k_t20, zpk_n, zpk_z, zpk_s, k_lw, k_fl, k_cy3, k_cy2, k_cy1, k_cd2, k_cd1, k_w3, k_w20, k_w21, k_w22, k_w23, k_w1T, k_w1F, k_fi, k_fz1, k_fz0, k_fzi, k_fz, k_fv0, k_fv3, k_I, k_B0, k_B1, k_B2, k_B3, k_C, k_E, zenv, zup, ze0, n_add, n_mul, m_st, m_sa, m_ne, m_ss, mm_s, mm_f, mm_ne, mm_ss, mm_sf, Nat.zero_add, u_at, u_ne, if_true, if_false, ite_true, ite_false, reduceIte, and_self, and_true, true_and, or_true, true_or, or_false, false_or, or_self, and_false, false_and, Bool.not_true, Bool.not_false, decide_true, decide_false, ne_eq, n_eqT, n_eqF, n_ltT, n_ltF, n_leT, n_leF, n_z0, n_zF, n_o1, n_oF, n_p0, n_pF, n_lt0, n_ge0, zeq, zne, zlt, zle, zge, zgt, ziadd, zisub, zimul, ziand, zior, zixor, zishl, zishr, ziushr, zidiv, zirem, zmax, zmin, Bool.false_eq_true, not_true_eq_false, not_false_eq_true, Nat.reduceEqDiff, Nat.reduceAdd, Nat.reduceMul, Nat.reduceSub, m8, n_sub, show 0 < len - 1 by omega, eP, eB, eL, eF, hne.symm, k1]
      · by_cases e : p a = p (len - 2)
        · rw [e, un_e, Nat.min_eq_left (by omega)]
        · rw [un_n e]
    · have hlt : L (p (len - 1)) < F (p (len - 1)) := by omega
      refine ⟨_, _, op, io, Nt, fun Q => ?_, J0.pop hl hT hlt, Ma, fun a ha => by rw [m_ne (by omega), m_ne (by omega)], fun z => by omega⟩
      simp only [M_X0_leave, B_X0_leave]
      simp -implicitDefEqProofs (disch := omega) only [zA0_ap, zA1_ap, zA2_ap, zA3_ap, zA4_ap, zA5_ap, v_fi, v_fz, v_fv, w_k, v_l, v_bin, v_biq, v_ald, v_tb, w_al, w_fd, v_cond, v_call, v_pi, w_an, v_ai, v_aq, v_cmp, v_cm0, w_cb, v_nt, v_and, v_or, w_sk, w_bk, w_cn, w_rv, v_rt, v_sq, v_se, v_ex, v_as, v_az, v_ao, v_pf, v_pz, v_fo, v_if, v_sw, v_lw, v_fl, v_cy, v_cyd, w_lr, wl_some, k_sq0, k_sq1, k_sq2, k_sq3, k_se, k_ex, k_rt, k_l, k_b2, k_b1, k_q2, k_q1, k_ald, k_tb, k_pi, k_condT, k_condF, k_condK, k_call, k_ac, k_ai, k_aq, k_c2, k_c1, k_c0, k_nt, k_andT, k_andF, k_orT, k_orF, k_as2, k_as1, k_az2, k_az1, k_ao2, k_ao1, k_pf, k_pz, k_fo, k_ifT, k_ifF, k_br0, k_br1, k_br2, k_br3, k_s0, k_s1, k_t1, k_s4, k_t4, k_s20, k_t20, zpk_n, zpk_z, zpk_s, k_lw, k_fl, k_cy3, k_cy2, k_cy1, k_cd2, k_cd1, k_w3, k_w20, k_w21, k_w22, k_w23, k_w1T, k_w1F, k_fi, k_fz1, k_fz0, k_fzi, k_fz, k_fv0, k_fv3, k_I, k_B0, k_B1, k_B2, k_B3, k_C, k_E, zenv, zup, ze0, n_add, n_mul, m_st, m_sa, m_ne, m_ss, mm_s, mm_f, mm_ne, mm_ss, mm_sf, Nat.zero_add, u_at, u_ne, if_true, if_false, ite_true, ite_false, reduceIte, and_self, and_true, true_and, or_true, true_or, or_false, false_or, or_self, and_false, false_and, Bool.not_true, Bool.not_false, decide_true, decide_false, ne_eq, n_eqT, n_eqF, n_ltT, n_ltF, n_leT, n_leF, n_z0, n_zF, n_o1, n_oF, n_p0, n_pF, n_lt0, n_ge0, zeq, zne, zlt, zle, zge, zgt, ziadd, zisub, zimul, ziand, zior, zixor, zishl, zishr, ziushr, zidiv, zirem, zmax, zmin, Bool.false_eq_true, not_true_eq_false, not_false_eq_true, Nat.reduceEqDiff, Nat.reduceAdd, Nat.reduceMul, Nat.reduceSub, m8, n_sub, show 0 < len - 1 by omega, eP, eB, eL, eF, zm, hne.symm, hLe]
end TA5
