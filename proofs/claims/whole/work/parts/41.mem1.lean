section ME1
variable {z : Bool} {ok : Nat → Prop} {N : Nat → Nat} {sg : Bool} {c s f : Nat → Int32} {t bc τ o r pl op : Nat} {b m : Nat} {μ ν : zM} {x1 x2 x3 : Int32} {Q : Int32 → zM → Prop}
theorem u_comm {g : Nat → Int32} {i j : Nat} {x y : Int32} (h : i ≠ j) : upd (upd g i x) j y = upd (upd g j y) i x := by
  funext k
  unfold upd
  by_cases h1 : k = j <;> by_cases h2 : k = i
  · omega
  · simp [h1, h2, h.symm]
  · simp [h1, h2, h]
  · simp [h1, h2]
theorem u_uu {g : Nat → Int32} {i : Nat} {x y : Int32} : upd (upd g i x) i y = upd g i y := by
  funext k
  unfold upd
  by_cases h : k = i <;> simp [h]
theorem u_id {g : Nat → Int32} {i : Nat} {x : Int32} (h : g i = x) : upd g i x = g := by
  funext k
  unfold upd
  by_cases e : k = i
  · simp [e, h]
  · simp [e]
theorem cSv_pl {w : Nat} {x : Int32} (hw : w < 20) (hb : 46 ≤ bc) : ∀ h, cSv (upd c (bc + 9) x) bc w h = cSv c bc w h
  | 0 => by unfold cSv; rw [u_ne (by omega)]
  | h + 1 => by unfold cSv; rw [u_ne (by omega), cSv_pl hw hb h]
theorem e_seenx {w h : Nat} {x : Int32} (hT : Th sg t bc) (hh : c (bc + 13) = nI h) (h4 : h ≤ 4) (hw : w < 20) : wr (M_X5_seen b [nI bc, nI w] (zsa μ (b + 8) (upd c (bc + 9) x))) Q = Q (cSv c bc w h <<< (nI 2 &&& 31) ||| (c w &&& nI 3)) (zsa μ (b + 8) (upd c (bc + 9) x)) := by
  have lo := hT.lo
  rw [e_seen hT.hi (by omega) (by rw [u_ne (by omega)]; exact hh) h4, cSv_pl hw lo, u_ne (by omega)]
theorem mvO_ok {l : List Nat} {sl : Nat} (hok6 : ∀ l : List Nat, l.Nodup → (∀ s ∈ l, s < 9 ∧ ok s) → l.length ≤ 6) (h1 : l.Nodup) (h2 : ∀ s ∈ l, s < 9 ∧ ok s) (h9 : sl < 9) (hs : ok sl) : (mvO l sl).Nodup ∧ (∀ s ∈ mvO l sl, s < 9 ∧ ok s) ∧ (mvO l sl).length ≤ 6 := by
  have a1 : (mvO l sl).Nodup := by
    unfold mvO
    rw [List.nodup_append]
    refine ⟨h1.filter _, by simp, fun x hx y hy => ?_⟩
    rw [List.mem_singleton] at hy
    subst hy
    have := (List.mem_filter.mp hx).2
    simpa using this
  have a2 : ∀ s ∈ mvO l sl, s < 9 ∧ ok s := by
    intro x hx
    unfold mvO at hx
    rcases List.mem_append.mp hx with hx | hx
    · exact h2 x (List.mem_filter.mp hx).1
    · rw [List.mem_singleton] at hx
      subst hx
      exact ⟨h9, hs⟩
  exact ⟨a1, a2, hok6 _ a1 a2⟩
theorem R_ord (R : Rel z ok N sg c s) : relO ok (c 27) (s 99) := by
  have := R 99 (by omega)
  unfold rl pos at this
  exact this
theorem R_updO (R : Rel z ok N sg c s) {v : Int32} (h : relO ok v v) : Rel z ok N sg (upd c 27 v) (upd s 99 v) := by
  have := R.up0 (i := 99) (by omega) (x := v) (y := v) (by unfold rl; exact h)
  exact this
/-- the moment of a call, on both sides -/
theorem s_moment {sl at_ : Nat} {d : Int32} (hok6 : ∀ l : List Nat, l.Nodup → (∀ s ∈ l, s < 9 ∧ ok s) → l.length ≤ 6) (hT : Th sg t bc) (R : Rel z ok N sg c s) (hsg : sg = true → f 3 = nI 1 ∧ τ = 3 ∧ 9 ≤ sl) (hsg0 : sg = false → f 3 = nI 0 ∧ τ = t ∧ sl = t * 3 + o ∧ o < 3 ∧ ok sl) (o4 : o ≤ 4) (hr : ν (m + 2) (916 + 4 * τ + o) = nI r) (r6 : r < 6) (p30 : pl < 30) (hat : at_ + 4 < 900) (sl13 : sl < 13) (hop : op < 27) (a0 : μ (b + 1 + 1) at_ = nI op) (dC : μ (b + 1 + 1) (at_ + 4) = d) (dM : ν (m + 2) (732 + 30 * r + pl) = d) (hd : d = nI 0 ∨ d = nI 1) :
    ∃ (fl : Bool) (v : Int32), (∀ c' : Nat → Int32, c' 27 = c 27 → ((op = 4 ∨ op = 5) → ¬ c' (bc + 5) >>> (nI 5 &&& 31) = 0) → ∀ Q, wr (M_X5_noteMoment b [nI bc, nI at_, nI sl] (zsa μ (b + 8) c')) Q = Q 0 (zsa μ (b + 8) (if fl = true then upd c' 27 v else c'))) ∧
    (∀ s' : Nat → Int32, s' 99 = s 99 → s' (27 + 18 * t) = nI o → s' (27 + 18 * t + 2) = nI pl → ∀ Q, wr (M_X9_happens m [nI t] (zmm ν m s' f)) Q = Q 0 (zmm ν m (if fl = true then upd s' 99 v else s') f)) ∧
    (∀ c' s' : Nat → Int32, Rel z ok N sg c' s' → Rel z ok N sg (if fl = true then upd c' 27 v else c') (if fl = true then upd s' 99 v else s')) := by
  obtain ⟨l, l1, l2, l6, e1, e2⟩ := R_ord R
  by_cases hn : d = nI 0 ∨ sg = true
  · refine ⟨false, 0, fun c' h1 h2 Q => ?_, fun s' h1 h2 h3 Q => ?_, fun c' s' h => by simpa using h⟩
    · rw [e_noteN hat a0 sl13 (by
        rcases hn with h | h
        · exact Or.inl (dC.trans h)
        · exact Or.inr (hsg h).2.2)]
      rfl
    · have hf : (f 3 = nI 1 ∧ τ = 3) ∨ (f 3 = nI 0 ∧ τ = t) := by
        cases hsgv : sg with
        | true => exact Or.inl ⟨(hsg hsgv).1, (hsg hsgv).2.1⟩
        | false => exact Or.inr ⟨(hsg0 hsgv).1, (hsg0 hsgv).2.1⟩
      rw [g_happensN hT.t3 hf h2 o4 hr r6 h3 p30 (by
        rcases hn with h | h
        · exact Or.inr (dM.trans h)
        · exact Or.inl (hsg h).1)]
      rfl
  · have hsf : sg = false := by
      cases hsgv : sg with
      | true => exact absurd (Or.inr hsgv) hn
      | false => rfl
    have hd1 : d = nI 1 := hd.resolve_left (fun q => hn (Or.inl q))
    obtain ⟨f0, ht, hsl, o3, hoks⟩ := hsg0 hsf
    have t3 := hT.t3
    have sl9 : sl < 9 := by omega
    obtain ⟨q1, q2, q3⟩ := mvO_ok hok6 l1 l2 sl9 hoks
    refine ⟨true, nI (encO (mvO l sl)), fun c' h1 h2 Q => ?_, fun s' h1 h2 h3 Q => ?_, fun c' s' h => ?_⟩
    · rw [e_noteT hat hT.hi a0 hop h2 sl9 (dC.trans hd1) (h1.trans e1) (fun x hx => (l2 x hx).1) l6]
      rfl
    · subst ht
      rw [g_happensT t3 f0 h2 o3 hr r6 h3 p30 (dM.trans hd1) (h1.trans e2) (fun x hx => (l2 x hx).1) l6, show 3 * τ + o = sl by omega]
      rfl
    · exact R_updO h ⟨mvO l sl, q1, q2, q3, rfl, rfl⟩
/-- a write, ordered or delayed -/
theorem s_write {mn : Int32} {h dl w k q : Nat} (hz : z = false ∨ ¬ mn = nI 2) (hm : μ (b + 1) 6 = mn) (hp : ν (m + 2) 948 = mn) (hT : Th sg t bc) (R : Rel z ok N sg c s) (hh : c (bc + 13) = nI h) (h4 : h ≤ 4) (hD : μ b 2 = nI dl) (hd2 : dl < 2) (hL : ∀ (s : Nat → Int32) Q, wr (M_X9_isLate m [] (zmm ν m s f)) Q = Q (nI dl) (zmm ν m s f)) (hw : w < 20) (hk : k < 411) (hq : q < 4) :
    ∃ c2 c3 s3 : Nat → Int32, (∀ x Q, dl = 1 → wr (M_X5_letComeUntil b [nI bc, nI 3] (zsa μ (b + 8) (upd c (bc + 9) x))) Q = Q 0 (zsa μ (b + 8) (upd c2 (bc + 9) x))) ∧ (dl = 0 → c2 = c) ∧ (∀ x Q, wr (M_X5_write b [nI bc, nI w, xC k q] (zsa μ (b + 8) (upd c2 (bc + 9) x))) Q = Q 0 (zsa μ (b + 8) (upd c3 (bc + 9) x))) ∧ (∀ Q, wr (M_X9_writes m [nI t, nI w, xM k q] (zmm ν m s f)) Q = Q 0 (zmm ν m s3 f)) ∧ Rel z ok N sg c3 s3 ∧
    (∀ j, 20 ≤ j → (j < bc + 13 ∨ bc + 18 ≤ j) → c2 j = c j ∧ c3 j = c j) ∧ (∀ j, 20 ≤ j → (j < 27 + 18 * t + 7 ∨ 27 + 18 * t + 12 ≤ j) → s3 j = s j) := by
  have lo := hT.lo
  have hi := hT.hi
  have t3 := hT.t3
  have xs2 := x_sh2 k q hk hq
  have yv := y_val k q hk hq
  have app : ∀ (c s : Nat → Int32) (h : Nat), Rel z ok N sg c s → c (bc + 13) = nI h → h < 4 → Rel z ok N sg (cAp c bc h w (vC k)) (upd (upd s (27 + 18 * t + 8 + h) (nI w <<< (nI 16 &&& 31) ||| vM k)) (27 + 18 * t + 7) (nI (h + 1))) := by
    intro c s h R hh h4
    have R1 := R.updT hT (o := 8 + h) (x := bC k w) (y := bM k w) (jc := bc + 14 + h) (jm := 27 + 18 * t + 8 + h) (by omega) (by
      rcases (show h = 0 ∨ h = 1 ∨ h = 2 ∨ h = 3 by omega) with rfl | rfl | rfl | rfl <;> exact ⟨k, w, hk, hw, rfl, rfl⟩) (by
      rcases (show h = 0 ∨ h = 1 ∨ h = 2 ∨ h = 3 by omega) with rfl | rfl | rfl | rfl <;> rfl) (by omega)
    exact R1.updT hT (o := 7) (x := nI (h + 1)) (y := nI (h + 1)) (by omega) ⟨h + 1, by omega, rfl, rfl⟩ rfl rfl
  have hhm : ∀ (c s : Nat → Int32) (h : Nat), Rel z ok N sg c s → c (bc + 13) = nI h → s (27 + 18 * t + 7) = nI h := fun c s h R hh => by
    obtain ⟨k, k1, k2, k3⟩ : relN 4 (c (bc + 13)) (s (27 + 18 * t + 7)) := R.th hT (o := 7) (by omega)
    rw [k3, ← k2, hh]
  have ex : ∀ (c' : Nat → Int32) (h : Nat) (x : Int32), h < 4 → cAp (upd c' (bc + 9) x) bc h w (vC k) = upd (cAp c' bc h w (vC k)) (bc + 9) x := fun c' h x h4 => by
    unfold cAp
    rw [u_comm (i := bc + 9) (j := bc + 14 + h) (by omega), u_comm (i := bc + 9) (j := bc + 13) (by omega)]
  rcases (show dl = 0 ∨ dl = 1 by omega) with rfl | rfl
  · refine ⟨c, cSt mn c w (vC k), mBe mn s w (xM k q), fun x Q q => by omega, fun _ => rfl, fun x Q => ?_, fun Q => ?_, relX_store hz R hw hk yv, fun j h1 h2 => ⟨rfl, ?_⟩, fun j h1 h2 => ?_⟩
    · rw [e_write0 (by omega) hD, hm, xs2]
      unfold cSt
      rw [u_ne (by omega), u_comm (i := bc + 9) (j := w) (by omega)]
    · refine wr_fn ?_ Q
      simp only [M_X9_writes, B_X9_writes]
      simp -implicitDefEqProofs (disch := omega) only [zA0_ap, zA1_ap, zA2_ap, zA3_ap, zA4_ap, zA5_ap, v_fi, v_fz, v_fv, w_k, v_l, v_bin, v_biq, v_ald, v_tb, w_al, w_fd, v_cond, v_call, v_pi, w_an, v_ai, v_aq, v_cmp, v_cm0, w_cb, v_nt, v_and, v_or, w_sk, w_bk, w_cn, w_rv, v_rt, v_sq, v_se, v_ex, v_as, v_az, v_ao, v_pf, v_pz, v_fo, v_if, v_sw, v_lw, v_fl, v_cy, v_cyd, w_lr, wl_some, k_sq0, k_sq1, k_sq2, k_sq3, k_se, k_ex, k_rt, k_l, k_b2, k_b1, k_q2, k_q1, k_ald, k_tb, k_pi, k_condT, k_condF, k_condK, k_call, k_ac, k_ai, k_aq, k_c2, k_c1, k_c0, k_nt, k_andT, k_andF, k_orT, k_orF, k_as2, k_as1, k_az2, k_az1, k_ao2, k_ao1, k_pf, k_pz, k_fo, k_ifT, k_ifF, k_br0, k_br1, k_br2, k_br3, k_s0, k_s1, k_t1, k_s4, k_t4, k_s20, k_t20, zpk_n, zpk_z, zpk_s, k_lw, k_fl, k_cy3, k_cy2, k_cy1, k_cd2, k_cd1, k_w3, k_w20, k_w21, k_w22, k_w23, k_w1T, k_w1F, k_fi, k_fz1, k_fz0, k_fzi, k_fz, k_fv0, k_fv3, k_I, k_B0, k_B1, k_B2, k_B3, k_C, k_E, zenv, zup, ze0, n_add, n_mul, m_st, m_sa, m_ne, m_ss, mm_s, mm_f, mm_ne, mm_ss, mm_sf, Nat.zero_add, u_at, u_ne, if_true, if_false, ite_true, ite_false, reduceIte, and_self, and_true, true_and, or_true, true_or, or_false, false_or, or_self, and_false, false_and, Bool.not_true, Bool.not_false, decide_true, decide_false, ne_eq, n_eqT, n_eqF, n_ltT, n_ltF, n_leT, n_leF, n_z0, n_zF, n_o1, n_oF, n_p0, n_pF, n_lt0, n_ge0, zeq, zne, zlt, zle, zge, zgt, ziadd, zisub, zimul, ziand, zior, zixor, zishl, zishr, ziushr, zidiv, zirem, zmax, zmin, Bool.false_eq_true, not_true_eq_false, not_false_eq_true, Nat.reduceEqDiff, Nat.reduceAdd, Nat.reduceMul, Nat.reduceSub, hL, g_becomes, hp]
    · unfold cSt; rw [u_ne (by omega)]
    · unfold mBe; rw [u_ne (by omega)]
  · by_cases h3 : h < 4
    · have hs := hhm c s h R hh
      refine ⟨c, cAp c bc h w (vC k), _, fun x Q _ => ?_, fun q => by omega, fun x Q => ?_, fun Q => ?_, app c s h R hh h3, fun j h1 h2 => ⟨rfl, ?_⟩, fun j h1 h2 => ?_⟩
      · exact s_room3 hT (by rw [u_ne (by omega)]; exact hh) (by omega) Q
      · rw [e_write1 hi hD (by rw [u_ne (by omega)]; exact hh) h3, xs2, ex c h x h3]
      · refine wr_fn ?_ Q
        simp only [M_X9_writes, B_X9_writes]
        simp -implicitDefEqProofs (disch := omega) only [zA0_ap, zA1_ap, zA2_ap, zA3_ap, zA4_ap, zA5_ap, v_fi, v_fz, v_fv, w_k, v_l, v_bin, v_biq, v_ald, v_tb, w_al, w_fd, v_cond, v_call, v_pi, w_an, v_ai, v_aq, v_cmp, v_cm0, w_cb, v_nt, v_and, v_or, w_sk, w_bk, w_cn, w_rv, v_rt, v_sq, v_se, v_ex, v_as, v_az, v_ao, v_pf, v_pz, v_fo, v_if, v_sw, v_lw, v_fl, v_cy, v_cyd, w_lr, wl_some, k_sq0, k_sq1, k_sq2, k_sq3, k_se, k_ex, k_rt, k_l, k_b2, k_b1, k_q2, k_q1, k_ald, k_tb, k_pi, k_condT, k_condF, k_condK, k_call, k_ac, k_ai, k_aq, k_c2, k_c1, k_c0, k_nt, k_andT, k_andF, k_orT, k_orF, k_as2, k_as1, k_az2, k_az1, k_ao2, k_ao1, k_pf, k_pz, k_fo, k_ifT, k_ifF, k_br0, k_br1, k_br2, k_br3, k_s0, k_s1, k_t1, k_s4, k_t4, k_s20, k_t20, zpk_n, zpk_z, zpk_s, k_lw, k_fl, k_cy3, k_cy2, k_cy1, k_cd2, k_cd1, k_w3, k_w20, k_w21, k_w22, k_w23, k_w1T, k_w1F, k_fi, k_fz1, k_fz0, k_fzi, k_fz, k_fv0, k_fv3, k_I, k_B0, k_B1, k_B2, k_B3, k_C, k_E, zenv, zup, ze0, n_add, n_mul, m_st, m_sa, m_ne, m_ss, mm_s, mm_f, mm_ne, mm_ss, mm_sf, Nat.zero_add, u_at, u_ne, if_true, if_false, ite_true, ite_false, reduceIte, and_self, and_true, true_and, or_true, true_or, or_false, false_or, or_self, and_false, false_and, Bool.not_true, Bool.not_false, decide_true, decide_false, ne_eq, n_eqT, n_eqF, n_ltT, n_ltF, n_leT, n_leF, n_z0, n_zF, n_o1, n_oF, n_p0, n_pF, n_lt0, n_ge0, zeq, zne, zlt, zle, zge, zgt, ziadd, zisub, zimul, ziand, zior, zixor, zishl, zishr, ziushr, zidiv, zirem, zmax, zmin, Bool.false_eq_true, not_true_eq_false, not_false_eq_true, Nat.reduceEqDiff, Nat.reduceAdd, Nat.reduceMul, Nat.reduceSub, hL, g_at, hs, yv]
      · unfold cAp
        simp (disch := omega) only [u_ne]
      · simp (disch := omega) only [u_ne]
    · have h4' : h = 4 := by omega
      subst h4'
      have hs := hhm c s 4 R hh
      obtain ⟨k1, w1, hk1, hw1, f1, f2⟩ : relB (c (bc + 14)) (s (27 + 18 * t + 8)) := R.th hT (o := 8) (by omega)
      obtain ⟨c1, s1, e1, e2, R1, hh1, b1, b2⟩ := s_come (b := b) (m := m) hz hm hp R hT hh (by omega) (by omega)
      have hh1 : c1 (bc + 13) = nI 3 := hh1
      have hs1 := hhm c1 s1 3 R1 hh1
      have ec : ∀ Q, wr (M_X5_comeOldest b [nI bc] (zsa μ (b + 8) c)) Q = Q 0 (zsa μ (b + 8) (cCo mn c bc w1 (vC k1))) := fun Q => by
        rw [← hm]
        exact e_come hi lo hh (by omega) (by omega) (by rw [f1]; exact z_word k1 w1 hk1 hw1) hw1 (by rw [f1]; exact z_val k1 w1 hk1 hw1)
      have ecx : ∀ x Q, wr (M_X5_comeOldest b [nI bc] (zsa μ (b + 8) (upd c (bc + 9) x))) Q = Q 0 (zsa μ (b + 8) (upd (cCo mn c bc w1 (vC k1)) (bc + 9) x)) := fun x Q => by
        have := e_come (b := b) (μ := μ) (Q := Q) (c := upd c (bc + 9) x) (w := w1) (h := 4) (v := vC k1) hi lo (by rw [u_ne (by omega)]; exact hh) (by omega) (by omega) (by rw [u_ne (by omega), f1]; exact z_word k1 w1 hk1 hw1) hw1 (by rw [u_ne (by omega), f1]; exact z_val k1 w1 hk1 hw1)
        rw [this, hm]
        congr 2
        unfold cCo cSt
        rw [u_ne (by omega), u_ne (by omega), u_ne (by omega), u_ne (by omega), u_ne (by omega), u_comm (i := bc + 9) (j := w1) (by omega), u_comm (i := bc + 9) (j := bc + 14) (by omega), u_comm (i := bc + 9) (j := bc + 15) (by omega), u_comm (i := bc + 9) (j := bc + 16) (by omega), u_comm (i := bc + 9) (j := bc + 17) (by omega), u_comm (i := bc + 9) (j := bc + 13) (by omega)]
      have hc1 : c1 = cCo mn c bc w1 (vC k1) := by
        have h1 := e1 (fun _ m => m = zsa μ (b + 8) (cCo mn c bc w1 (vC k1)))
        have h2 := ec (fun _ m => m = zsa μ (b + 8) (cCo mn c bc w1 (vC k1)))
        rw [h2] at h1
        have h3 : zsa μ (b + 8) c1 = zsa μ (b + 8) (cCo mn c bc w1 (vC k1)) := h1.mp rfl
        have h4 := congrFun h3 (b + 8)
        rw [m_sa, m_sa] at h4
        exact h4
      rw [← hc1] at ecx
      refine ⟨c1, cAp c1 bc 3 w (vC k), _, fun x Q _ => ?_, fun q => by omega, fun x Q => ?_, fun Q => ?_, app c1 s1 3 R1 hh1 (by omega), fun j h1 h2 => ⟨b1 j h1 h2, ?_⟩, fun j h1 h2 => ?_⟩
      · exact s_room4 hT (by rw [u_ne (by omega)]; exact hh) (ecx x) Q
      · rw [e_write1 hi hD (by rw [u_ne (by omega)]; exact hh1) (by omega), xs2, ex c1 3 x (by omega)]
      · refine wr_fn ?_ Q
        simp only [M_X9_writes, B_X9_writes]
        simp -implicitDefEqProofs (disch := omega) only [zA0_ap, zA1_ap, zA2_ap, zA3_ap, zA4_ap, zA5_ap, v_fi, v_fz, v_fv, w_k, v_l, v_bin, v_biq, v_ald, v_tb, w_al, w_fd, v_cond, v_call, v_pi, w_an, v_ai, v_aq, v_cmp, v_cm0, w_cb, v_nt, v_and, v_or, w_sk, w_bk, w_cn, w_rv, v_rt, v_sq, v_se, v_ex, v_as, v_az, v_ao, v_pf, v_pz, v_fo, v_if, v_sw, v_lw, v_fl, v_cy, v_cyd, w_lr, wl_some, k_sq0, k_sq1, k_sq2, k_sq3, k_se, k_ex, k_rt, k_l, k_b2, k_b1, k_q2, k_q1, k_ald, k_tb, k_pi, k_condT, k_condF, k_condK, k_call, k_ac, k_ai, k_aq, k_c2, k_c1, k_c0, k_nt, k_andT, k_andF, k_orT, k_orF, k_as2, k_as1, k_az2, k_az1, k_ao2, k_ao1, k_pf, k_pz, k_fo, k_ifT, k_ifF, k_br0, k_br1, k_br2, k_br3, k_s0, k_s1, k_t1, k_s4, k_t4, k_s20, k_t20, zpk_n, zpk_z, zpk_s, k_lw, k_fl, k_cy3, k_cy2, k_cy1, k_cd2, k_cd1, k_w3, k_w20, k_w21, k_w22, k_w23, k_w1T, k_w1F, k_fi, k_fz1, k_fz0, k_fzi, k_fz, k_fv0, k_fv3, k_I, k_B0, k_B1, k_B2, k_B3, k_C, k_E, zenv, zup, ze0, n_add, n_mul, m_st, m_sa, m_ne, m_ss, mm_s, mm_f, mm_ne, mm_ss, mm_sf, Nat.zero_add, u_at, u_ne, if_true, if_false, ite_true, ite_false, reduceIte, and_self, and_true, true_and, or_true, true_or, or_false, false_or, or_self, and_false, false_and, Bool.not_true, Bool.not_false, decide_true, decide_false, ne_eq, n_eqT, n_eqF, n_ltT, n_ltF, n_leT, n_leF, n_z0, n_zF, n_o1, n_oF, n_p0, n_pF, n_lt0, n_ge0, zeq, zne, zlt, zle, zge, zgt, ziadd, zisub, zimul, ziand, zior, zixor, zishl, zishr, ziushr, zidiv, zirem, zmax, zmin, Bool.false_eq_true, not_true_eq_false, not_false_eq_true, Nat.reduceEqDiff, Nat.reduceAdd, Nat.reduceMul, Nat.reduceSub, hL, g_at, hs, e2, hs1, yv]
      · unfold cAp
        simp (disch := omega) only [u_ne]
        exact b1 j h1 h2
      · simp (disch := omega) only [u_ne]
        exact b2 j h1 h2
/-! released nodes, on both sides -/
def deadZ (sg : Bool) (c : Nat → Int32) : Prop := if sg = true then c 52 = nI 0 ∧ c 53 = nI 0 ∧ c 54 = nI 0 else c 106 = nI 0 ∧ c 107 = nI 0 ∧ c 108 = nI 0
theorem nI_k1 {k : Nat} (hk : k < 100) : ¬ nI 0 = nI (k + 1) := fun q => by have := (n_eq (by omega) (by omega)).mp q; omega
theorem gd_iff (hd : deadZ sg c) (R : Rel z ok N sg c s) {k : Nat} (hk : k < 6) : cGd c k ↔ mGd s k 3 := by
  have nk := nI_k1 (k := k) (by omega)
  have blk : ∀ u bc, Th sg u bc → c (bc + 6) = s (32 + 18 * u) ∧ c (bc + 7) = s (33 + 18 * u) := fun u bc hT => by
    have h5 : c (bc + 6) = s (27 + 18 * u + 5) := R.th hT (o := 5) (by omega)
    have h6 : c (bc + 7) = s (27 + 18 * u + 6) := R.th hT (o := 6) (by omega)
    rw [show 27 + 18 * u + 5 = 32 + 18 * u by omega] at h5
    rw [show 27 + 18 * u + 6 = 33 + 18 * u by omega] at h6
    exact ⟨h5, h6⟩
  cases sg with
  | false =>
    obtain ⟨d1, d2, -⟩ : c 106 = nI 0 ∧ c 107 = nI 0 ∧ c 108 = nI 0 := hd
    constructor
    · rintro ⟨t, ht, h⟩
      rcases (show t < 3 ∨ t = 3 by omega) with h3 | rfl
      · obtain ⟨b1, b2⟩ := blk t (46 + 18 * t) (Or.inr ⟨rfl, h3, rfl⟩)
        rw [show 46 + 18 * t + 6 = 52 + 18 * t by omega] at b1
        rw [show 46 + 18 * t + 7 = 53 + 18 * t by omega] at b2
        exact ⟨t, h3, by rw [← b1, ← b2]; exact h⟩
      · rw [show 52 + 18 * 3 = 106 from rfl, show 53 + 18 * 3 = 107 from rfl, d1, d2] at h
        exact absurd h (fun q => q.elim nk nk)
    · rintro ⟨t, ht, h⟩
      obtain ⟨b1, b2⟩ := blk t (46 + 18 * t) (Or.inr ⟨rfl, ht, rfl⟩)
      rw [show 46 + 18 * t + 6 = 52 + 18 * t by omega] at b1
      rw [show 46 + 18 * t + 7 = 53 + 18 * t by omega] at b2
      exact ⟨t, by omega, by rw [b1, b2]; exact h⟩
  | true =>
    obtain ⟨d1, d2, -⟩ : c 52 = nI 0 ∧ c 53 = nI 0 ∧ c 54 = nI 0 := hd
    have b0 := blk 0 100 (Or.inl ⟨rfl, rfl, rfl⟩)
    have oth : ∀ u, u < 3 → 0 < u → c (52 + 18 * u) = s (32 + 18 * u) ∧ c (53 + 18 * u) = s (33 + 18 * u) := fun u hu h0 => by
      have h5 := R (32 + 18 * u) (by omega)
      have h6 := R (33 + 18 * u) (by omega)
      rw [rl_th (t := u) (o := 5) hu (by omega) (by omega)] at h5
      rw [rl_th (t := u) (o := 6) hu (by omega) (by omega)] at h6
      rcases (show u = 1 ∨ u = 2 by omega) with rfl | rfl
      · exact ⟨h5, h6⟩
      · exact ⟨h5, h6⟩
    constructor
    · rintro ⟨t, ht, h⟩
      rcases (show t = 0 ∨ t = 3 ∨ (0 < t ∧ t < 3) by omega) with rfl | rfl | ⟨h0, h3⟩
      · rw [show 52 + 18 * 0 = 52 from rfl, show 53 + 18 * 0 = 53 from rfl, d1, d2] at h
        exact absurd h (fun q => q.elim nk nk)
      · exact ⟨0, by omega, by rw [← b0.1, ← b0.2]; exact h⟩
      · obtain ⟨b1, b2⟩ := oth t h3 h0
        exact ⟨t, h3, by rw [← b1, ← b2]; exact h⟩
    · rintro ⟨t, ht, h⟩
      rcases (show t = 0 ∨ 0 < t by omega) with rfl | h0
      · exact ⟨3, by omega, by rw [← b0.1, ← b0.2] at h; exact h⟩
      · obtain ⟨b1, b2⟩ := oth t ht h0
        exact ⟨t, by omega, by rw [b1, b2]; exact h⟩
theorem i_sub1 {x y : Int32} : x - nI 1 = y ↔ x = y + nI 1 := by
  constructor
  · intro h; rw [← h]; exact (Int32.sub_add_cancel x (nI 1)).symm
  · intro h; rw [h]; exact Int32.add_sub_cancel y (nI 1)
theorem ap_iff (hd : deadZ sg c) (R : Rel z ok N sg c s) : cAP c ↔ mAP s 3 := by
  have e26 : c 26 = s 26 := R.node (k := 6) (by omega)
  have blk : ∀ u bc, Th sg u bc → c (bc + 8) = s (31 + 18 * u) := fun u bc hT => by
    have h5 : c (bc + 8) = s (27 + 18 * u + 4) := R.th hT (o := 4) (by omega)
    rw [show 27 + 18 * u + 4 = 31 + 18 * u by omega] at h5
    exact h5
  unfold cAP mAP
  simp only [i_sub1, e26]
  cases sg with
  | false =>
    obtain ⟨-, -, d3⟩ : c 106 = nI 0 ∧ c 107 = nI 0 ∧ c 108 = nI 0 := hd
    constructor
    · intro h t ht
      have b1 := blk t (46 + 18 * t) (Or.inr ⟨rfl, ht, rfl⟩)
      rw [show 46 + 18 * t + 8 = 54 + 18 * t by omega] at b1
      rw [← b1]; exact h t (by omega)
    · intro h t ht
      rcases (show t < 3 ∨ t = 3 by omega) with h3 | rfl
      · have b1 := blk t (46 + 18 * t) (Or.inr ⟨rfl, h3, rfl⟩)
        rw [show 46 + 18 * t + 8 = 54 + 18 * t by omega] at b1
        rw [b1]; exact h t h3
      · exact Or.inl d3
  | true =>
    obtain ⟨-, -, d3⟩ : c 52 = nI 0 ∧ c 53 = nI 0 ∧ c 54 = nI 0 := hd
    have b0 := blk 0 100 (Or.inl ⟨rfl, rfl, rfl⟩)
    have oth : ∀ u, u < 3 → 0 < u → c (54 + 18 * u) = s (31 + 18 * u) := fun u hu h0 => by
      have h5 := R (31 + 18 * u) (by omega)
      rw [rl_th (t := u) (o := 4) hu (by omega) (by omega)] at h5
      rcases (show u = 1 ∨ u = 2 by omega) with rfl | rfl
      · exact h5
      · exact h5
    constructor
    · intro h t ht
      rcases (show t = 0 ∨ 0 < t by omega) with rfl | h0
      · rw [show 31 + 18 * 0 = 31 + 18 * 0 from rfl, ← b0]; exact h 3 (by omega)
      · rw [← oth t ht h0]; exact h t (by omega)
    · intro h t ht
      rcases (show t = 0 ∨ t = 3 ∨ (0 < t ∧ t < 3) by omega) with rfl | rfl | ⟨h0, h3⟩
      · exact Or.inl d3
      · have := h 0 (by omega)
        rw [← b0] at this; exact this
      · rw [oth t h3 h0]; exact h t h3
theorem wn_eq (R : Rel z ok N sg c s) : ∀ k, k ≤ 6 → cWn c k = cWn s k
  | 0, _ => rfl
  | k + 1, h => by unfold cWn; rw [wn_eq R k (by omega), R.node (k := k) (by omega)]
theorem pos_fu {i : Nat} (hi : i < 100) : (20 ≤ pos sg i ∧ pos sg i < 27) ↔ (20 ≤ i ∧ i < 27) := by
  have h0 : ∀ i, i < 100 → ((20 ≤ pos false i ∧ pos false i < 27) ↔ (20 ≤ i ∧ i < 27)) := fa1 (by decide +kernel)
  have h1 : ∀ i, i < 100 → ((20 ≤ pos true i ∧ pos true i < 27) ↔ (20 ≤ i ∧ i < 27)) := fa1 (by decide +kernel)
  cases sg with
  | false => exact h0 i hi
  | true => exact h1 i hi
theorem R_fu (R : Rel z ok N sg c s) {P P' : Nat → Bool} {k : Nat} (hk : k ≤ 6) (hP : ∀ j, j < 6 → P j = P' j) : Rel z ok N sg (cFu c P k) (cFu s P' k) := by
  intro i hi
  have hp := pos_fu (sg := sg) hi
  by_cases h : 20 ≤ i ∧ i < 20 + k
  · have e : pos sg i = i := by unfold pos; rw [if_pos (by omega)]
    rw [e]
    unfold cFu
    rw [hP (i - 20) (by omega)]
    by_cases h2 : P' (i - 20) = true
    · rw [if_pos ⟨h.1, h.2, h2⟩, if_pos ⟨h.1, h.2, h2⟩]
      unfold rl
      rw [if_neg (by omega), if_pos (by omega)]
    · rw [if_neg (fun q => h2 q.2.2), if_neg (fun q => h2 q.2.2)]
      have := R i hi
      rw [e] at this
      exact this
  · have hq : pos sg i < 20 ∨ 20 + k ≤ pos sg i := by
      by_cases h27 : 20 ≤ i ∧ i < 27
      · have e : pos sg i = i := by unfold pos; rw [if_pos (by omega)]
        omega
      · omega
    rw [cFu_lo (c := s) (P := P') (j := i) (by omega), cFu_lo (c := c) (P := P) (j := pos sg i) hq]
    exact R i hi
theorem cFu_congr {P P' : Nat → Bool} {k : Nat} (h : ∀ j, j < k → P j = P' j) : cFu c P k = cFu c P' k := by
  funext i
  unfold cFu
  by_cases e : 20 ≤ i ∧ i < 20 + k
  · rw [h (i - 20) (by omega)]
  · rw [if_neg (fun q => e ⟨q.1, q.2.1⟩), if_neg (fun q => e ⟨q.1, q.2.1⟩)]
theorem fp_eq (hd : deadZ sg c) (R : Rel z ok N sg c s) {k : Nat} (hk : k < 6) : cFp c k = mFp s k := by
  have e := R.node (k := k) (by omega)
  have g := gd_iff hd R hk
  by_cases h : nI 2 ≤ c (20 + k) ∧ ¬ cGd c k
  · rw [cFp_t h.1 h.2, mFp_t (by rw [← e]; exact h.1) (fun q => h.2 (g.mpr q))]
  · rw [cFp_f (fun q => Classical.byContradiction fun q2 => h ⟨q, q2⟩), mFp_f (fun q => Classical.byContradiction fun q2 => h ⟨by rw [e]; exact q, fun q3 => q2 (g.mp q3)⟩)]
theorem tp_eq {e : Int32} (R : Rel z ok N sg c s) {k : Nat} (hk : k < 6) : cTp c e k = cTp s e k := by
  unfold cTp
  rw [R.node (k := k) (by omega)]
theorem R_te (hd : deadZ sg c) (R : Rel z ok N sg c s) : Rel z ok N sg (cTe c) (mTe s) := by
  unfold cTe mTe
  have e26 : c 26 = s 26 := R.node (k := 6) (by omega)
  have e1 : c 26 + 1 = s 26 + nI 1 := by rw [e26]; rfl
  rw [wn_eq R 6 (by omega)]
  by_cases h : cWn s 6 = 0 ∨ ¬ cAP c
  · rw [if_pos h, if_pos (h.imp id (fun q q2 => q ((ap_iff hd R).mpr q2)))]
    exact R
  · rw [if_neg h, if_neg (fun q => h (q.imp id (fun q q2 => q ((ap_iff hd R).mp q2)))), e1]
    exact R_fu (R.updN (k := 26) (by omega) (by omega)) (by omega) (fun j hj => tp_eq R hj)
/-- what a node's release or a guard brings about -/
noncomputable def mSe (mn : Int32) (op : Nat) (s : Nat → Int32) : Nat → Int32 := if mn = nI 3 ∧ (op = 9 ∨ op = 13 ∨ op = 10) then cFu s (mFp s) 6 else if mn = nI 4 ∧ (op = 9 ∨ op = 13 ∨ op = 11 ∨ op = 12) then mTe s else s
theorem R_se {mn : Int32} (hd : deadZ sg c) (R : Rel z ok N sg c s) : Rel z ok N sg (cSe mn op c) (mSe mn op s) := by
  unfold cSe mSe
  split
  · exact R_fu R (by omega) (fun j hj => fp_eq hd R hj)
  · split
    · exact R_te hd R
    · exact R
theorem cTe_lo {j : Nat} (h : j < 20 ∨ 27 ≤ j) : cTe c j = c j := by
  unfold cTe
  split
  · rfl
  · rw [cFu_lo (by omega), u_ne (by omega)]
theorem mTe_lo {j : Nat} (h : j < 20 ∨ 27 ≤ j) : mTe s j = s j := by
  unfold mTe
  split
  · rfl
  · rw [cFu_lo (by omega), u_ne (by omega)]
theorem cSe_lo {mn : Int32} {j : Nat} (h : j < 20 ∨ 27 ≤ j) : cSe mn op c j = c j := by
  unfold cSe
  split
  · exact cFu_lo (by omega)
  · split
    · exact cTe_lo h
    · rfl
theorem mSe_lo {mn : Int32} {j : Nat} (h : j < 20 ∨ 27 ≤ j) : mSe mn op s j = s j := by
  unfold mSe
  split
  · exact cFu_lo (by omega)
  · split
    · exact mTe_lo h
    · rfl
theorem cWn_upd {j : Nat} {x : Int32} (h : j < 20 ∨ 26 ≤ j) : ∀ k, k ≤ 6 → cWn (upd c j x) k = cWn c k
  | 0, _ => rfl
  | k + 1, hk => by unfold cWn; rw [cWn_upd h k (by omega), u_ne (by omega)]
theorem cFu_upd {P : Nat → Bool} {j k : Nat} {x : Int32} (h : j < 20 ∨ 26 ≤ j) (hk : k ≤ 6) : cFu (upd c j x) P k = upd (cFu c P k) j x := by
  funext i
  by_cases e : i = j
  · subst e; rw [u_eq, cFu_lo (by omega), u_eq]
  · rw [u_ne e]
    unfold cFu
    rw [u_ne e]
/-- the place of a thread makes no difference -/
theorem cSe_pl {mn x : Int32} (hT : Th sg t bc) : cSe mn op (upd c (bc + 9) x) = upd (cSe mn op c) (bc + 9) x := by
  have lo := hT.lo
  have ne : ∀ u, bc + 9 ≠ 52 + 18 * u ∧ bc + 9 ≠ 53 + 18 * u ∧ bc + 9 ≠ 54 + 18 * u := fun u => by rcases hT with h | h <;> omega
  have gd : ∀ k, cGd (upd c (bc + 9) x) k ↔ cGd c k := fun k => by
    unfold cGd
    constructor
    · rintro ⟨u, hu, h⟩
      rw [u_ne (ne u).1.symm, u_ne (ne u).2.1.symm] at h
      exact ⟨u, hu, h⟩
    · rintro ⟨u, hu, h⟩
      refine ⟨u, hu, ?_⟩
      rw [u_ne (ne u).1.symm, u_ne (ne u).2.1.symm]
      exact h
  have ap : cAP (upd c (bc + 9) x) ↔ cAP c := by
    unfold cAP
    constructor
    · intro h u hu
      have := h u hu
      rw [u_ne (ne u).2.2.symm, u_ne (by omega)] at this
      exact this
    · intro h u hu
      rw [u_ne (ne u).2.2.symm, u_ne (by omega)]
      exact h u hu
  have e26 : (upd c (bc + 9) x) 26 = c 26 := u_ne (by omega)
  unfold cSe
  split
  · have : cFu (upd c (bc + 9) x) (cFp (upd c (bc + 9) x)) 6 = cFu (upd c (bc + 9) x) (cFp c) 6 := cFu_congr fun k hk => by
      by_cases h : nI 2 ≤ c (20 + k) ∧ ¬ cGd c k
      · rw [cFp_t (c := c) h.1 h.2, cFp_t (by rw [u_ne (by omega)]; exact h.1) (fun q => h.2 ((gd k).mp q))]
      · rw [cFp_f (c := c) (fun q => Classical.byContradiction fun q2 => h ⟨q, q2⟩), cFp_f (fun q => Classical.byContradiction fun q2 => h ⟨by rw [u_ne (by omega)] at q; exact q, fun q3 => q2 ((gd k).mpr q3)⟩)]
    rw [this, cFu_upd (by omega) (by omega)]
  · split
    · unfold cTe
      rw [cWn_upd (by omega) 6 (by omega), e26]
      by_cases h : cWn c 6 = 0 ∨ ¬ cAP c
      · rw [if_pos h, if_pos (h.imp id (fun q q2 => q (ap.mp q2)))]
      · rw [if_neg h, if_neg (fun q => h (q.imp id (fun q q2 => q (ap.mpr q2))))]
        have : cFu (upd (upd c (bc + 9) x) 26 (c 26 + 1)) (cTp (upd c (bc + 9) x) (c 26 + 1)) 6 = cFu (upd (upd c (bc + 9) x) 26 (c 26 + 1)) (cTp c (c 26 + 1)) 6 := cFu_congr fun k hk => by
          unfold cTp
          rw [u_ne (by omega)]
        rw [this, u_comm (i := bc + 9) (j := 26) (by omega), cFu_upd (by omega) (by omega)]
    · rfl
end ME1
