theorem k_s8 {ρ : zE} {μ : zM} {k : Nat} {tb : List zT} {df : zT} {Q : Nat → Int32 → zE → zM → Prop} (h : 8 ≤ k) (hk : k < 2147483648) : Ksw 8 tb df ρ Q (nI k) μ = wp (zpk (k - 8) tb df) ρ μ (Kbr Q) := k_sw (lo := 8) h hk
theorem k_t8 {ρ : zE} {μ : zM} {k : Nat} {tb : List zT} {df : zT} {Q : Nat → Int32 → zE → zM → Prop} (h : k < 8) : Ksw 8 tb df ρ Q (nI k) μ = wp df ρ μ (Kbr Q) := k_swl (lo := 8) h (by omega)
theorem g_in {x lo hi : Int32} {μ : zM} {Q : Int32 → zM → Prop} : wr (M_X9_in [x, lo, hi] μ) Q = Q (if lo ≤ x ∧ x ≤ hi then nI 1 else nI 0) μ := by
  unfold M_X9_in
  rw [zA3_ap]
  rfl
section ME2
variable {z : Bool} {ok : Nat → Prop} {N : Nat → Nat} {sg : Bool} {c s sp f : Nat → Int32} {t bc τ o r pl op h sl dl : Nat} {b m : Nat} {μ ν : zM} {mn x1 x2 x3 : Int32} {Q : Int32 → zM → Prop}
def mO (fl : Bool) (v : Int32) (i : Nat) (g : Nat → Int32) : Nat → Int32 := if fl = true then upd g i v else g
theorem mO_ne {fl : Bool} {v : Int32} {i j : Nat} {g : Nat → Int32} (hj : j ≠ i) : mO fl v i g j = g j := by
  unfold mO
  split
  · exact u_ne hj
  · rfl
theorem mO_upd {fl : Bool} {v x : Int32} {i j : Nat} {g : Nat → Int32} (hj : i ≠ j) : mO fl v i (upd g j x) = upd (mO fl v i g) j x := by
  unfold mO
  split
  · exact u_comm (Ne.symm hj)
  · rfl
def momH (z : Bool) (ok : Nat → Prop) (N : Nat → Nat) (sg : Bool) (b m : Nat) (μ ν : zM) (c s f : Nat → Int32) (t bc o pl op at_ sl : Nat) : Prop :=
  ∃ (fl : Bool) (v : Int32), (∀ c' : Nat → Int32, c' 27 = c 27 → ((op = 4 ∨ op = 5) → ¬ c' (bc + 5) >>> (nI 5 &&& 31) = 0) → ∀ Q, wr (M_X5_noteMoment b [nI bc, nI at_, nI sl] (zsa μ (b + 8) c')) Q = Q 0 (zsa μ (b + 8) (mO fl v 27 c'))) ∧
    (∀ s' : Nat → Int32, s' 99 = s 99 → s' (27 + 18 * t) = nI o → s' (27 + 18 * t + 2) = nI pl → ∀ Q, wr (M_X9_happens m [nI t] (zmm ν m s' f)) Q = Q 0 (zmm ν m (mO fl v 99 s') f)) ∧
    (∀ c' s' : Nat → Int32, Rel z ok N sg c' s' → Rel z ok N sg (mO fl v 27 c') (mO fl v 99 s')) ∧ (6 < op → ∀ i g, mO fl v i g = g) ∧ (∀ c' : Nat → Int32, (op = 4 ∨ op = 5) → c' (bc + 5) >>> (nI 5 &&& 31) = nI 0 → ∀ Q, wr (M_X5_noteMoment b [nI bc, nI at_, nI sl] (zsa μ (b + 8) c')) Q = Q 0 (zsa μ (b + 8) c'))
/-- the act meets an error, on both sides -/
def memE (b m : Nat) (μ ν : zM) (c s sp f : Nat → Int32) (t bc at_ : Nat) : Prop :=
  ∃ e, 0 < e ∧ e ≤ 6 ∧ (∀ Q, wr (M_X5_memoryError b [nI bc, nI at_] (zsa μ (b + 8) c)) Q = Q (nI e) (zsa μ (b + 8) c)) ∧ (∀ Q, wr (M_X9_memory m [nI t] (zmm ν m sp f)) Q = Q 0 (zmm ν m (upd s (27 + 18 * t + 3) (nI e)) f))
/-- the act is done, on both sides -/
def memD (z : Bool) (ok : Nat → Prop) (N : Nat → Nat) (sg : Bool) (b m : Nat) (μ ν : zM) (c s sp f : Nat → Int32) (t bc pl op at_ sl : Nat) : Prop :=
  (∀ Q, wr (M_X5_memoryError b [nI bc, nI at_] (zsa μ (b + 8) c)) Q = Q (nI 0) (zsa μ (b + 8) c)) ∧ ∃ c2 c3 c4 c5 s5 : Nat → Int32,
  (μ b 2 = nI 1 → (op = 2 ∨ op = 3) → ∀ x Q, wr (M_X5_letComeUntil b [nI bc, nI 3] (zsa μ (b + 8) (upd c (bc + 9) x))) Q = Q 0 (zsa μ (b + 8) (upd c2 (bc + 9) x))) ∧ (¬ (μ b 2 = nI 1 ∧ (op = 2 ∨ op = 3)) → c2 = c) ∧
  (∀ x Q, wr (M_X5_perform b [nI bc, nI at_, nI sl] (zsa μ (b + 8) (upd c2 (bc + 9) x))) Q = Q 0 (zsa μ (b + 8) (upd c3 (bc + 9) x))) ∧
  (∀ x Q, wr (M_X5_noteMoment b [nI bc, nI at_, nI sl] (zsa μ (b + 8) (upd c3 (bc + 9) x))) Q = Q 0 (zsa μ (b + 8) (upd c4 (bc + 9) x))) ∧
  (∀ x Q, wr (M_X5_settle b [nI op] (zsa μ (b + 8) (upd c4 (bc + 9) x))) Q = Q 0 (zsa μ (b + 8) (upd c5 (bc + 9) x))) ∧
  (∀ Q, wr (M_X9_memory m [nI t] (zmm ν m sp f)) Q = Q 0 (zmm ν m (upd s5 (27 + 18 * t + 2) (nI (pl + 1))) f)) ∧ Rel z ok N sg c5 s5 ∧
  (∀ j, 28 ≤ j → (j < bc ∨ bc + 18 ≤ j ∨ (bc + 9 ≤ j ∧ j < bc + 13)) → c5 j = c j) ∧ (∀ i, 27 ≤ i → i ≠ 99 → (i < 27 + 18 * t + 4 ∨ 27 + 18 * t + 18 ≤ i) → s5 i = s i)
theorem cSe_no (h : op < 9 ∨ 20 ≤ op) : cSe mn op c = c := by
  unfold cSe
  rw [if_neg (by omega), if_neg (by omega)]
theorem mSe_no (h : op < 9 ∨ 20 ≤ op) : mSe mn op s = s := by
  unfold mSe
  rw [if_neg (by omega), if_neg (by omega)]
theorem R_setl {a : Nat} {X Y : Int32} (hT : Th sg t bc) (R : Rel z ok N sg c s) (ha : a < 6) (hx : relX z X Y) : Rel z ok N sg (upd c (bc + a) X) (upd s (27 + 18 * t + 12 + a) Y) :=
  R.updT hT (o := 12 + a) (x := X) (y := Y) (jc := bc + a) (jm := 27 + 18 * t + 12 + a) (by omega) (by
    rcases (show a = 0 ∨ a = 1 ∨ a = 2 ∨ a = 3 ∨ a = 4 ∨ a = 5 by omega) with rfl | rfl | rfl | rfl | rfl | rfl <;> exact hx) (by
    rcases (show a = 0 ∨ a = 1 ∨ a = 2 ∨ a = 3 ∨ a = 4 ∨ a = 5 by omega) with rfl | rfl | rfl | rfl | rfl | rfl <;> rfl) (by omega)
/-- a done act of the operations 0 to 7, out of what it changes -/
theorem memD_of {c2 c3 s3 : Nat → Int32} (hT : Th sg t bc) (hop9 : op < 9 ∨ (20 ≤ op ∧ op < 27)) (hm : μ (b + 1) 6 = mn)
    (he : ∀ Q, wr (M_X5_memoryError b [nI bc, nI ((r * 30 + pl) * 5)] (zsa μ (b + 8) c)) Q = Q (nI 0) (zsa μ (b + 8) c))
    (h1 : μ b 2 = nI 1 → (op = 2 ∨ op = 3) → ∀ x Q, wr (M_X5_letComeUntil b [nI bc, nI 3] (zsa μ (b + 8) (upd c (bc + 9) x))) Q = Q 0 (zsa μ (b + 8) (upd c2 (bc + 9) x))) (h2 : ¬ (μ b 2 = nI 1 ∧ (op = 2 ∨ op = 3)) → c2 = c)
    (h3 : ∀ x Q, wr (M_X5_perform b [nI bc, nI ((r * 30 + pl) * 5), nI sl] (zsa μ (b + 8) (upd c2 (bc + 9) x))) Q = Q 0 (zsa μ (b + 8) (upd c3 (bc + 9) x)))
    {fl : Bool} {v : Int32} (n1 : ∀ c' : Nat → Int32, c' 27 = c 27 → ((op = 4 ∨ op = 5) → ¬ c' (bc + 5) >>> (nI 5 &&& 31) = 0) → ∀ Q, wr (M_X5_noteMoment b [nI bc, nI ((r * 30 + pl) * 5), nI sl] (zsa μ (b + 8) c')) Q = Q 0 (zsa μ (b + 8) (mO fl v 27 c')))
    (n3 : ∀ c' s' : Nat → Int32, Rel z ok N sg c' s' → Rel z ok N sg (mO fl v 27 c') (mO fl v 99 s'))
    (h45 : (op = 4 ∨ op = 5) → ¬ c3 (bc + 5) >>> (nI 5 &&& 31) = 0) (h27 : c3 27 = c 27)
    (h4 : ∀ Q, wr (M_X9_memory m [nI t] (zmm ν m sp f)) Q = Q 0 (zmm ν m (upd (mO fl v 99 s3) (27 + 18 * t + 2) (nI (pl + 1))) f)) (h5 : Rel z ok N sg c3 s3)
    (h6 : ∀ j, 28 ≤ j → (j < bc ∨ bc + 18 ≤ j ∨ (bc + 9 ≤ j ∧ j < bc + 13)) → c3 j = c j) (h7 : ∀ i, 27 ≤ i → i ≠ 99 → (i < 27 + 18 * t + 4 ∨ 27 + 18 * t + 18 ≤ i) → s3 i = s i) : memD z ok N sg b m μ ν c s sp f t bc pl op ((r * 30 + pl) * 5) sl := by
  have lo := hT.lo
  refine ⟨he, c2, c3, mO fl v 27 c3, mO fl v 27 c3, mO fl v 99 s3, h1, h2, h3, fun x Q => ?_, fun x Q => ?_, h4, n3 _ _ h5, fun j hj1 hj2 => ?_, fun i hi1 hi2 hi3 => ?_⟩
  · rw [n1 _ (by rw [u_ne (by omega)]; exact h27) (fun q => by rw [u_ne (by omega)]; exact h45 q), mO_upd (by omega)]
  · rw [e_settle (by omega), hm, cSe_no (by omega)]
  · rw [mO_ne (by omega)]; exact h6 j hj1 hj2
  · rw [mO_ne hi2]; exact h7 i hi1 hi2 hi3
theorem s_m0 {a w : Nat} (hT : Th sg t bc) (R : Rel z ok N sg c s) (hm : μ (b + 1) 6 = mn) (hpm : ν (m + 2) 948 = mn) (hz : z = false ∨ ¬ mn = nI 2) (hz2 : z = true ∨ mn = nI 2) (hf : (f 3 = nI 1 ∧ τ = 3) ∨ (f 3 = nI 0 ∧ τ = t)) (hop : sp (27 + 18 * t) = nI o) (hpp : sp (27 + 18 * t + 2) = nI pl) (ho : s (27 + 18 * t) = nI o) (hp : s (27 + 18 * t + 2) = nI pl) (o4 : o ≤ 4) (hr : ν (m + 2) (916 + 4 * τ + o) = nI r) (r6 : r < 6) (p30 : pl < 30) (hlt : nI pl < ν (m + 2) r) (a0 : μ (b + 1 + 1) ((r * 30 + pl) * 5) = nI op) (m0 : ν (m + 2) (6 + 120 * r + 4 * pl) = nI op) (a1 : μ (b + 1 + 1) ((r * 30 + pl) * 5 + 1) = x1) (m1 : ν (m + 2) (6 + 120 * r + 4 * pl + 1) = x1) (a2 : μ (b + 1 + 1) ((r * 30 + pl) * 5 + 2) = x2) (m2 : ν (m + 2) (6 + 120 * r + 4 * pl + 2) = x2) (a3 : μ (b + 1 + 1) ((r * 30 + pl) * 5 + 3) = x3) (m3 : ν (m + 2) (6 + 120 * r + 4 * pl + 3) = x3) (hh : c (bc + 13) = nI h) (h4 : h ≤ 4) (hd : deadZ sg c) (sl13 : sl < 13) (MO : momH z ok N sg b m μ ν c s f t bc o pl op ((r * 30 + pl) * 5) sl) (hsp : sp = s) (h0 : op = 0) (e1 : x1 = nI a) (ha : a < 6) (e2 : x2 = nI w) (hw : w < 8) : memD z ok N sg b m μ ν c s sp f t bc pl op ((r * 30 + pl) * 5) sl := by
  have lo := hT.lo
  have hi := hT.hi
  have t3 := hT.t3
  obtain ⟨fl, v, n1, n2, n3, -⟩ := MO
  subst h0 e1 e2 hsp
  have hhm : sp (27 + 18 * t + 7) = nI h := by
    obtain ⟨k, k1, k2, k3⟩ : relN 4 (c (bc + 13)) (sp (27 + 18 * t + 7)) := R.th hT (o := 7) (by omega)
    rw [k3, ← k2, hh]
  have hx := s_seen hT R (w := w) (by omega) h4
  have e_se : ∀ x Q, wr (M_X5_seen b [nI bc, nI w] (zsa μ (b + 8) (upd c (bc + 9) x))) Q = Q (cSv c bc w h <<< (nI 2 &&& 31) ||| (c w &&& nI 3)) (zsa μ (b + 8) (upd c (bc + 9) x)) := fun x Q => e_seenx hT hh h4 (by omega)
  have g_se : ∀ f Q, wr (M_X9_sees m [nI t, nI w] (zmm ν m sp f)) Q = Q (mSv sp (27 + 18 * t) w h ||| (sp w >>> (nI 11 &&& 31) &&& nI 3) <<< (nI 11 &&& 31)) (zmm ν m sp f) := fun f Q => g_sees t3 (by omega) hhm h4
  generalize cSv c bc w h <<< (nI 2 &&& 31) ||| (c w &&& nI 3) = X at hx e_se
  generalize mSv sp (27 + 18 * t) w h ||| (sp w >>> (nI 11 &&& 31) &&& nI 3) <<< (nI 11 &&& 31) = Y at hx g_se
  have n2' := n2 (upd sp (27 + 18 * t + 12 + a) Y) (by rw [u_ne (by omega)]) (by rw [u_ne (by omega)]; exact ho) (by rw [u_ne (by omega)]; exact hp)
  refine memD_of hT (by omega) hm (fun Q => ?_) (fun _ q => by omega) (fun _ => rfl) (c3 := upd c (bc + a) X) (s3 := upd sp (27 + 18 * t + 12 + a) Y) (fun x Q => ?_) n1 n3 (fun q => by omega) (by rw [u_ne (by omega)]) (fun Q => ?_) (R_setl hT R ha hx) (fun j h1 h2 => by rw [u_ne (by omega)]) (fun i h1 h2 h3 => by rw [u_ne (by omega)])
  · simp only [M_X5_memoryError, B_X5_memoryError]
    simp -implicitDefEqProofs (disch := omega) only [zA0_ap, zA1_ap, zA2_ap, zA3_ap, zA4_ap, zA5_ap, v_fi, v_fz, v_fv, w_k, v_l, v_bin, v_biq, v_ald, v_tb, w_al, w_fd, v_cond, v_call, v_pi, w_an, v_ai, v_aq, v_cmp, v_cm0, w_cb, v_nt, v_and, v_or, w_sk, w_bk, w_cn, w_rv, v_rt, v_sq, v_se, v_ex, v_as, v_az, v_ao, v_pf, v_pz, v_fo, v_if, v_sw, v_lw, v_fl, v_cy, v_cyd, w_lr, wl_some, k_sq0, k_sq1, k_sq2, k_sq3, k_se, k_ex, k_rt, k_l, k_b2, k_b1, k_q2, k_q1, k_ald, k_tb, k_pi, k_condT, k_condF, k_condK, k_call, k_ac, k_ai, k_aq, k_c2, k_c1, k_c0, k_nt, k_andT, k_andF, k_orT, k_orF, k_as2, k_as1, k_az2, k_az1, k_ao2, k_ao1, k_pf, k_pz, k_fo, k_ifT, k_ifF, k_br0, k_br1, k_br2, k_br3, k_s0, k_s1, k_t1, k_s4, k_t4, k_s20, k_t20, zpk_n, zpk_z, zpk_s, k_lw, k_fl, k_cy3, k_cy2, k_cy1, k_cd2, k_cd1, k_w3, k_w20, k_w21, k_w22, k_w23, k_w1T, k_w1F, k_fi, k_fz1, k_fz0, k_fzi, k_fz, k_fv0, k_fv3, k_I, k_B0, k_B1, k_B2, k_B3, k_C, k_E, zenv, zup, ze0, n_add, n_mul, m_st, m_sa, m_ne, m_ss, mm_s, mm_f, mm_ne, mm_ss, mm_sf, Nat.zero_add, u_at, u_ne, if_true, if_false, ite_true, ite_false, reduceIte, and_self, and_true, true_and, or_true, true_or, or_false, false_or, or_self, and_false, false_and, Bool.not_true, Bool.not_false, decide_true, decide_false, ne_eq, n_eqT, n_eqF, n_ltT, n_ltF, n_leT, n_leF, n_z0, n_zF, n_o1, n_oF, n_p0, n_pF, n_lt0, n_ge0, zeq, zne, zlt, zle, zge, zgt, ziadd, zisub, zimul, ziand, zior, zixor, zishl, zishr, ziushr, zidiv, zirem, zmax, zmin, Bool.false_eq_true, not_true_eq_false, not_false_eq_true, Nat.reduceEqDiff, Nat.reduceAdd, Nat.reduceMul, Nat.reduceSub, a0, a1]
  · rw [u_comm (i := bc + a) (j := bc + 9) (by omega)]
    simp only [M_X5_perform, B_X5_perform]
    simp -implicitDefEqProofs (disch := omega) only [zA0_ap, zA1_ap, zA2_ap, zA3_ap, zA4_ap, zA5_ap, v_fi, v_fz, v_fv, w_k, v_l, v_bin, v_biq, v_ald, v_tb, w_al, w_fd, v_cond, v_call, v_pi, w_an, v_ai, v_aq, v_cmp, v_cm0, w_cb, v_nt, v_and, v_or, w_sk, w_bk, w_cn, w_rv, v_rt, v_sq, v_se, v_ex, v_as, v_az, v_ao, v_pf, v_pz, v_fo, v_if, v_sw, v_lw, v_fl, v_cy, v_cyd, w_lr, wl_some, k_sq0, k_sq1, k_sq2, k_sq3, k_se, k_ex, k_rt, k_l, k_b2, k_b1, k_q2, k_q1, k_ald, k_tb, k_pi, k_condT, k_condF, k_condK, k_call, k_ac, k_ai, k_aq, k_c2, k_c1, k_c0, k_nt, k_andT, k_andF, k_orT, k_orF, k_as2, k_as1, k_az2, k_az1, k_ao2, k_ao1, k_pf, k_pz, k_fo, k_ifT, k_ifF, k_br0, k_br1, k_br2, k_br3, k_s0, k_s1, k_t1, k_s4, k_t4, k_s20, k_t20, zpk_n, zpk_z, zpk_s, k_lw, k_fl, k_cy3, k_cy2, k_cy1, k_cd2, k_cd1, k_w3, k_w20, k_w21, k_w22, k_w23, k_w1T, k_w1F, k_fi, k_fz1, k_fz0, k_fzi, k_fz, k_fv0, k_fv3, k_I, k_B0, k_B1, k_B2, k_B3, k_C, k_E, zenv, zup, ze0, n_add, n_mul, m_st, m_sa, m_ne, m_ss, mm_s, mm_f, mm_ne, mm_ss, mm_sf, Nat.zero_add, u_at, u_ne, if_true, if_false, ite_true, ite_false, reduceIte, and_self, and_true, true_and, or_true, true_or, or_false, false_or, or_self, and_false, false_and, Bool.not_true, Bool.not_false, decide_true, decide_false, ne_eq, n_eqT, n_eqF, n_ltT, n_ltF, n_leT, n_leF, n_z0, n_zF, n_o1, n_oF, n_p0, n_pF, n_lt0, n_ge0, zeq, zne, zlt, zle, zge, zgt, ziadd, zisub, zimul, ziand, zior, zixor, zishl, zishr, ziushr, zidiv, zirem, zmax, zmin, Bool.false_eq_true, not_true_eq_false, not_false_eq_true, Nat.reduceEqDiff, Nat.reduceAdd, Nat.reduceMul, Nat.reduceSub, a0, a1, a2, a3, e_se]
  · refine wr_fn ?_ Q
    simp only [M_X9_memory, B_X9_memory, M_X9_meets, B_X9_meets, M_X9_in]
    simp -implicitDefEqProofs (disch := omega) only [zA0_ap, zA1_ap, zA2_ap, zA3_ap, zA4_ap, zA5_ap, v_fi, v_fz, v_fv, w_k, v_l, v_bin, v_biq, v_ald, v_tb, w_al, w_fd, v_cond, v_call, v_pi, w_an, v_ai, v_aq, v_cmp, v_cm0, w_cb, v_nt, v_and, v_or, w_sk, w_bk, w_cn, w_rv, v_rt, v_sq, v_se, v_ex, v_as, v_az, v_ao, v_pf, v_pz, v_fo, v_if, v_sw, v_lw, v_fl, v_cy, v_cyd, w_lr, wl_some, k_sq0, k_sq1, k_sq2, k_sq3, k_se, k_ex, k_rt, k_l, k_b2, k_b1, k_q2, k_q1, k_ald, k_tb, k_pi, k_condT, k_condF, k_condK, k_call, k_ac, k_ai, k_aq, k_c2, k_c1, k_c0, k_nt, k_andT, k_andF, k_orT, k_orF, k_as2, k_as1, k_az2, k_az1, k_ao2, k_ao1, k_pf, k_pz, k_fo, k_ifT, k_ifF, k_br0, k_br1, k_br2, k_br3, k_s0, k_s1, k_t1, k_s4, k_t4, k_s20, k_t20, zpk_n, zpk_z, zpk_s, k_lw, k_fl, k_cy3, k_cy2, k_cy1, k_cd2, k_cd1, k_w3, k_w20, k_w21, k_w22, k_w23, k_w1T, k_w1F, k_fi, k_fz1, k_fz0, k_fzi, k_fz, k_fv0, k_fv3, k_I, k_B0, k_B1, k_B2, k_B3, k_C, k_E, zenv, zup, ze0, n_add, n_mul, m_st, m_sa, m_ne, m_ss, mm_s, mm_f, mm_ne, mm_ss, mm_sf, Nat.zero_add, u_at, u_ne, if_true, if_false, ite_true, ite_false, reduceIte, and_self, and_true, true_and, or_true, true_or, or_false, false_or, or_self, and_false, false_and, Bool.not_true, Bool.not_false, decide_true, decide_false, ne_eq, n_eqT, n_eqF, n_ltT, n_ltF, n_leT, n_leF, n_z0, n_zF, n_o1, n_oF, n_p0, n_pF, n_lt0, n_ge0, zeq, zne, zlt, zle, zge, zgt, ziadd, zisub, zimul, ziand, zior, zixor, zishl, zishr, ziushr, zidiv, zirem, zmax, zmin, Bool.false_eq_true, not_true_eq_false, not_false_eq_true, Nat.reduceEqDiff, Nat.reduceAdd, Nat.reduceMul, Nat.reduceSub, g_in, g_at, g_opAt hT.t3 hf hop o4 hr r6 hpp (show pl ≤ 40 by omega), g_argumentOf hT.t3 hf hop o4 hr r6 hpp (show pl ≤ 40 by omega), hlt, m0, m1, m2, m3, g_localOf, g_setLocal, g_asNumber, g_finds, g_numberOf, g_nodeOf, g_alike, g_se, n2', wr_some, mO_ne, hp]
end ME2
