/-! THE LAW'S STEPS: calls in worlds of their own, with memories of their own -/
section LAWM
variable {w : zN} {N : List Nat} {S : zS} {κ : List (Nat × Nat)} {vd : Bool} {d pc : Nat} {σ μ μ' ν ν' : zM} {F G : List Int32 → zM → Option (Int32 × zM)}
theorem zgd0 {c1 : Cond} (h : c1 ∈ zGW) : GoodIn zGW (c1 :: zGW) := fun w hw => by
  rcases List.mem_cons.mp hw with rfl | hw
  · exact ⟨h, good_of_word (zgood h)⟩
  · exact ⟨hw, good_of_word (zgood hw)⟩
/-- F at a memory of its own, for a world whose memory is σ -/
noncomputable def zgh (σ μ : zM) (F : List Int32 → zM → Option (Int32 × zM)) : List Int32 → zM → Option (Int32 × zM) := fun vs σ' => @ite _ (σ' = σ) (Classical.propDecidable _) (F vs μ) none
theorem zgh_ct {y : MethodName} {ws : List Cond} {rm : Room} {n : Nat} {rc : List Value} {mg : List Int32 → List Value} (ct : zCt (zwn w N) vd y ws rm n rc mg F) (ha : ∀ a ∈ N, σ a = μ a) : zCt (zwn w N) vd y ws rm n rc mg (zgh σ μ F) := by
  intro vs σ' r μ' hf
  unfold zgh at hf
  split at hf
  · rename_i e
    subst e
    obtain ⟨c1, c2⟩ := ct vs μ r μ' hf
    have e : zws (zwn w N) σ' = zws (zwn w N) μ := by
      unfold zws
      exact List.map_congr_left fun a h => by rw [ha a h]
    have e2 : zPre (zwn w N) σ' = zPre (zwn w N) μ := by
      funext U
      unfold zPre
      rw [e]
    refine ⟨c1, fun l => ?_⟩
    rw [e2]
    exact c2 l
  · cases hf
/-- one call of the law: an object, its arguments, the call -/
theorem lw_half {x : zK} {ρ : zE} {vs : List Int32} {r : Int32} {a : zA} {ts : List (Option (Nat × Bool))} {p1 n k nb : Nat} {j : Fin 4} (hO : zOk w S x) (d0 : decode S.1 pc = .ok (.aload_n j, 1)) (hj : (j : Nat) = k) (hk : (k, nb) ∈ κ) (A1 : zAv w S κ (d + 1) (pc + 1) p1 (zmg (zad w) ts) a) (e : a ρ σ = some (vs, σ)) (cs : zCs w S p1 n false [.ref (zad w nb)] (zmg (zad w) ts) (zlf N (zgh σ μ F))) (f1 : F vs μ = some (r, μ')) (hd : d ≤ 8) {H : Heap} {ls : Array Slot} {lo : List Loc} {st : List Value} (hL : zL w S κ ls ρ) (hH : zH w x σ H lo) (hst : zc st ≤ d) (kk : ∀ (H' : Heap) (lo' : List Loc), zH w x (fun a => if a ∈ N then μ' a else σ a) H' lo' → zW S x H' lo' (p1 + 3) ls (.int r :: st)) : zW S x H lo pc ls st := by
  refine (zr_ln d0 hj hk) x hO ρ σ H ls lo st hL hH (A1 x hO ρ σ vs σ e H ls lo _ hL hH (by rw [zc_ref]; omega) fun H1 lo1 hH1 => ?_)
  refine cs x hO vs σ r _ ?_ H1 ls lo1 st hL.1 hH1 (by omega) kk
  unfold zlf zgh
  rw [if_pos rfl, f1]
/-- only what is new, or the world's own, has changed: the rest of it is forgotten -/
theorem lw_forget {p : Program} {l : Launch} {e : Jvm.Env} {R : Room} {s : State} {m : MethodId} {args : Array Value} {below : List Frame} {meth : Method} {c : Code} {H : Heap} {lo : List Loc} {cells slots : Nat} {Q : State → Prop} {g : JFrame} (kk : W p l e R s m args below meth c H (lo.filter (fun q => decide (q.base < s.heap.size))) cells slots Q g) : W p l e R s m args below meth c H lo cells slots Q g := fun T hT X => kk T hT { X with same := X.same.weaken (fun y hy hlt => List.mem_filter.mpr ⟨hy, decide_eq_true hlt⟩) (Nat.le_refl _) (Nat.le_refl _) }
/-- the law's memory: the class's and the model's own -/
def Lv (h : Bool) (σ : zM) : Prop := ∃ μ ν, Iv h 0 50 μ ν ∧ (∀ a ∈ lnC h, σ a = μ a) ∧ ∀ a ∈ lnM, σ a = ν a
theorem Lv_mk {h : Bool} (I : Iv h 0 50 μ' ν') : Lv h (fun a => if a ∈ lnM then ν' a else if a ∈ lnC h then μ' a else σ a) := by
  refine ⟨μ', ν', I, fun a ha => ?_, fun a ha => if_pos ha⟩
  have h1 := lnC_lt a ha
  show (if a ∈ lnM then ν' a else if a ∈ lnC h then μ' a else σ a) = μ' a
  rw [if_neg (fun z => by have := (lnM_lt a z).1; omega), if_pos ha]
abbrev lS : zS := (code, 4, R_law, zGW, room_1)
abbrev lκ : List (Nat × Nat) := [(0, 69), (1, 0), (2, 50)]
/-- the state of the law at the loop's head and end -/
def Jt (h : Bool) (F G : List Int32 → zM → Option (Int32 × zM)) (vs : List Int32) : Prop := ∀ μ ν, Iv h 0 50 μ ν → ∃ r μ' ν', F vs μ = some (r, μ') ∧ G vs ν = some (r, ν') ∧ Iv h 0 50 μ' ν'
theorem Jt_of {h : Bool} {vs : List Int32} (H : ∀ μ ν, Iv h 0 50 μ ν → wr (F vs μ) (fun r μ' => wr (G vs ν) (fun r' ν' => r' = r ∧ Iv h 0 50 μ' ν'))) : Jt h F G vs := by
  intro μ ν I
  have H := H μ ν I
  cases e1 : F vs μ with
  | none => rw [e1] at H; exact H.elim
  | some q =>
    rw [e1] at H
    cases e2 : G vs ν with
    | none =>
      have H : wr (G vs ν) (fun r' ν' => r' = q.1 ∧ Iv h 0 50 q.2 ν') := H
      rw [e2] at H; exact H.elim
    | some q2 =>
      have H : wr (G vs ν) (fun r' ν' => r' = q.1 ∧ Iv h 0 50 q.2 ν') := H
      rw [e2] at H
      have H : q2.1 = q.1 ∧ Iv h 0 50 q.2 q2.2 := H
      exact ⟨q.1, q.2, q2.2, rfl, by rw [← H.1], H.2⟩
theorem Jt_ok {h : Bool} {vs : List Int32} (H : ∀ μ ν, StI 0 50 μ ν → wr (F vs μ) (fun r μ' => wr (G vs ν) (fun r' ν' => r' = r ∧ OkS 0 50 μ ν μ' ν'))) : Jt h F G vs := by
  intro μ ν I
  have H := H μ ν I.1
  cases e1 : F vs μ with
  | none => rw [e1] at H; exact H.elim
  | some q =>
    rw [e1] at H
    cases e2 : G vs ν with
    | none =>
      have H : wr (G vs ν) (fun r' ν' => r' = q.1 ∧ OkS 0 50 μ ν q.2 ν') := H
      rw [e2] at H; exact H.elim
    | some q2 =>
      have H : wr (G vs ν) (fun r' ν' => r' = q.1 ∧ OkS 0 50 μ ν q.2 ν') := H
      rw [e2] at H
      have H : q2.1 = q.1 ∧ OkS 0 50 μ ν q.2 q2.2 := H
      exact ⟨q.1, q.2, q2.2, rfl, by rw [← H.1], Iv.of I.2 H.2⟩
variable {L : Nat} {fl : List (Option (Option Nat))} {ad : Nat → Nat} {D : va_G} {cI cZ cA : ClassId}
/-- the model's half, and the comparison -/
theorem lw_cmp {h : Bool} {x : zK} {ρ : zE} {vs : List Int32} {r : Int32} {a : zA} {ts : List (Option (Nat × Bool))} {p2 n : Nat} {off : Int} (hO : zOk (lw h L fl ad D cI cZ cA) lS x) (d0 : decode code pc = .ok (.aload_n 2, 1)) (A2 : zAv (lw h L fl ad D cI cZ cA) lS lκ 2 (pc + 1) p2 (zmg ad ts) a) (e : a ρ σ = some (vs, σ)) (cs : zCs (lw h L fl ad D cI cZ cA) lS p2 n false [.ref (ad 50)] (zmg ad ts) (zlf lnM (zgh σ ν G))) (g1 : G vs ν = some (r, ν')) (d3 : decode code (p2 + 3) = .ok (.if_icmp .eq off, 3)) (ht : ((p2 + 3 : Nat) : Int) + off = ((983 : Nat) : Int)) {H : Heap} {ls : Array Slot} {lo : List Loc} (hL : zL (lw h L fl ad D cI cZ cA) lS lκ ls ρ) (hH : zH (lw h L fl ad D cI cZ cA) x σ H lo) (kk : ∀ (H' : Heap) (lo' : List Loc), zH (lw h L fl ad D cI cZ cA) x (fun a => if a ∈ lnM then ν' a else σ a) H' lo' → zW lS x H' lo' 983 ls []) : zW lS x H lo pc ls [.int r] := by
  refine lw_half (w := lw h L fl ad D cI cZ cA) (N := lnM) (κ := lκ) (d := 1) (nb := 50) hO d0 rfl (List.mem_of_getElem? (i := 2) rfl) A2 e cs g1 (by omega) hL hH (Nat.le_of_ble_eq_true rfl) fun H1 lo1 hH1 => ?_
  have k9 := kk H1 lo1 hH1
  obtain ⟨p, l, e, s, m, args, below, meth, c, Q⟩ := x
  exact lv_icmp_eq (tgt := 983) hO.1 hO.2.1 d3 ht (fun _ => k9) (fun z => absurd rfl z)
/-- a call on both sides, in a world that stays -/
theorem lw_case {h : Bool} {x : zK} {ρ : zE} {vs : List Int32} {a : zA} {ts : List (Option (Nat × Bool))} {p1 p2 n n2 : Nat} {off : Int} (hO : zOk (lw h L fl ad D cI cZ cA) lS x) (d0 : decode code pc = .ok (.aload_n 1, 1)) (A1 : zAv (lw h L fl ad D cI cZ cA) lS lκ 1 (pc + 1) p1 (zmg ad ts) a) (cs1 : ∀ σ μ : zM, (∀ a ∈ lnC h, σ a = μ a) → zCs (lw h L fl ad D cI cZ cA) lS p1 n false [.ref (ad 0)] (zmg ad ts) (zlf (lnC h) (zgh σ μ F))) (d2 : decode code (p1 + 3) = .ok (.aload_n 2, 1)) (A2 : zAv (lw h L fl ad D cI cZ cA) lS lκ 2 (p1 + 3 + 1) p2 (zmg ad ts) a) (cs2 : ∀ σ μ : zM, (∀ a ∈ lnM, σ a = μ a) → zCs (lw h L fl ad D cI cZ cA) lS p2 n2 false [.ref (ad 50)] (zmg ad ts) (zlf lnM (zgh σ μ G))) (d3 : decode code (p2 + 3) = .ok (.if_icmp .eq off, 3)) (ht : ((p2 + 3 : Nat) : Int) + off = ((983 : Nat) : Int)) (e : ∀ σ, a ρ σ = some (vs, σ)) (J : Jt h F G vs) (V : Lv h σ) {H : Heap} {ls : Array Slot} {lo : List Loc} (hL : zL (lw h L fl ad D cI cZ cA) lS lκ ls ρ) (hH : zH (lw h L fl ad D cI cZ cA) x σ H lo) (kk : ∀ (H' : Heap) (lo' : List Loc) (σ' : zM), Lv h σ' → zH (lw h L fl ad D cI cZ cA) x σ' H' lo' → zW lS x H' lo' 983 ls []) : zW lS x H lo pc ls [] := by
  obtain ⟨μ, ν, I, a1, a2⟩ := V
  obtain ⟨r, μ', ν', f1, g1, I'⟩ := J μ ν I
  refine lw_half (w := lw h L fl ad D cI cZ cA) (N := lnC h) (κ := lκ) (d := 0) (nb := 0) hO d0 rfl (List.mem_of_getElem? (i := 1) rfl) A1 (e σ) (cs1 σ μ a1) f1 (by omega) hL hH (Nat.le_refl _) fun H1 lo1 hH1 => ?_
  refine lw_cmp hO d2 A2 (e _) (cs2 _ ν fun a ha => ?_) g1 d3 ht hL hH1 fun H2 lo2 hH2 => kk H2 lo2 _ (Lv_mk I') hH2
  have h2 := (lnM_lt a ha).1
  show (if a ∈ lnC h then μ' a else σ a) = ν a
  rw [if_neg (fun z => by have := lnC_lt a z; omega)]
  exact a2 a ha
/-- a number of the script, at a place ahead -/
theorem lsc {ρ : zE} {f : Nat → Int32} {n c : Nat} (hρ : ρ 3 = some (nI n)) (hc : n + c < L) (h3 : L ≤ 3072) : ztb f L (zbin ziadd (zl 3) (zk (nI c))) ρ σ = some (f (n + c), σ) := by
  have e : zbin ziadd (zl 3) (zk (nI c)) ρ σ = some (nI (n + c), σ) := by
    unfold zbin zl zk
    rw [hρ]
    show some (nI n + nI c, σ) = _
    rw [n_add]
  unfold ztb
  rw [e]
  show (if 0 ≤ (nI (n + c)).toInt ∧ (nI (n + c)).toInt < (L : Int) then some (f (nI (n + c)).toInt.toNat, σ) else none) = _
  rw [n_toInt (by omega), if_pos (by omega)]
  rfl
theorem lai {ρ : zE} {e : zX} {a : zA} {v : Int32} {vs : List Int32} (h1 : ∀ σ, e ρ σ = some (v, σ)) (h2 : ∀ σ, a ρ σ = some (vs, σ)) (σ : zM) : zai e a ρ σ = some (v :: vs, σ) := by
  unfold zai
  rw [h1]
  show (match a ρ σ with | none => none | some (vs, μ2) => some (v :: vs, μ2)) = _
  rw [h2]
theorem lbo {ρ : zE} {e : zX} {v : Int32} (h1 : ∀ σ, e ρ σ = some (v, σ)) (σ : zM) : zcond (zcm0 (fun a => zne a 0) e) (zk (nI 1)) (zk (nI 0)) ρ σ = some (nI (if v = 0 then 0 else 1), σ) := by
  unfold zcond zcm0
  rw [h1]
  by_cases hv : v = 0
  · rw [hv]; rfl
  · have e2 : zne v 0 = true := by unfold zne; exact decide_eq_true hv
    show (match some (zne v 0, σ) with | none => none | some (true, μ1) => zk (nI 1) ρ μ1 | some (false, μ1) => zk (nI 0) ρ μ1) = _
    rw [e2, if_neg hv]
    rfl
theorem l31 (v : Int32) : ∃ k, k < 32 ∧ v &&& 31 = nI k := by
  refine ⟨(v &&& 31).toBitVec.toNat, ?_, ?_⟩
  · have : (v &&& 31).toBitVec = v.toBitVec &&& 31#32 := rfl
    rw [this, BitVec.toNat_and]
    exact Nat.lt_of_le_of_lt Nat.and_le_right (by decide)
  · unfold nI
    apply Int32.toBitVec_inj.mp
    simp
end LAWM
