section ZMT2
variable {w : zN} {S : zS} {κ : List (Nat × Nat)} {d pc N B C : Nat} {vd : Bool}
/-! contracts -/
def zPre (w : zN) (μ : zM) (U : State) : Prop := va_P (zD w) zcl (zws w μ) U.heap ∧ va_K (zD w) zcl (zty w) U ∧ va_D (zFr w) (zws w μ) ∧ zG w U ∧ (znm w).Nodup
def zQi (w : zN) (r : Int32) (μ' : zM) : Array Value → State → Outcome → State → Prop := va_Qi (S := Unit) (fun r' _ => r' = r) (fun _ t => va_P (zD w) zcl (zws w μ') t.heap) (zFr w)
def zQv (w : zN) (μ' : zM) : Array Value → State → Outcome → State → Prop := va_Qv (S := Unit) (fun _ => True) (fun _ t => va_P (zD w) zcl (zws w μ') t.heap) (zFr w)
def zQ (w : zN) (vd : Bool) (r : Int32) (μ' : zM) : Array Value → State → Outcome → State → Prop := match vd with
  | true => zQv w μ'
  | false => zQi w r μ'
/-- method y, as a function F of its numbers (rc: the receiver, mg: how the arguments are made; n of them) -/
def zCt (w : zN) (vd : Bool) (y : MethodName) (ws : List Cond) (rm : Room) (n : Nat) (rc : List Value) (mg : List Int32 → List Value) (F : List Int32 → zM → Option (Int32 × zM)) : Prop :=
  ∀ (vs : List Int32) (μ : zM) (r : Int32) (μ' : zM), F vs μ = some (r, μ') → (mg vs).length = n ∧ ∀ l : Launch, Met l y ws rm (va_Pc (rc ++ mg vs) (zPre w μ)) (zQ w vd r μ') 0 0 (zFr w)
theorem zPre_blind {μ : zM} {av : List Value} : FrameBlind (va_Pc av (zPre w μ)) := fun a U g mk q => by
  obtain ⟨h0, h1, h2, h3, h4, h5⟩ := q
  refine ⟨h0, h1, va_K.moved (u := U) (U := U.calling g mk a) (Vm.Alike.refl U.vm) h2, h3, ⟨fun q hq => ?_, fun q hq => va_Nw.same rfl (u := U) (U := U.calling g mk a) rfl (h4.2.1 q hq), fun n L fl hn => ?_⟩, h5⟩
  · obtain ⟨t, g1, g2⟩ := h4.1 q hq
    exact ⟨t, va_Z.moved (u := U) (U := U.calling g mk a) (Vm.Alike.refl U.vm) g1, va_T.moved (u := U) (U := U.calling g mk a) (Vm.Alike.refl U.vm) g2⟩
  · obtain ⟨x1, x2, x3⟩ := h4.2.2 n L fl hn
    exact ⟨va_X_mv (s := U) (U := U.calling g mk a) (A := fun _ => False) (lo := []) x1 (fun h => h) x2 (va_S.rf (A := fun _ => False) (H0 := U.heap)) (Vm.Alike.refl U.vm), x2, x3⟩
theorem zPre_of {x : zK} {μ : zM} {H : Heap} {lo : List Loc} (hO : zOk w S x) (hH : zH w x μ H lo) : ∀ U : State, U.heap = H → x.2.2.2.1.WarmedH U.vm → zPre w μ U := by
  intro U hU hW
  obtain ⟨p, l, e, s, m, args, below, meth, c, Q⟩ := x
  obtain ⟨hx, hb, hml, hown, hts, hK, -, hn, hG⟩ := hO
  exact ⟨by rw [hU]; exact hH.1, va_K.moved hW.alike hK, hH.2.1, zG_at hG hH.2.2 hU hW, hn⟩
/-- what a call needs of the tables -/
def zCw (S : zS) (idx : Nat) (y : MethodName) (bytes : ByteArray) (maxL : Nat) (ret : Option FieldType) (ws : List Cond) (rm : Room) (n : Nat) : Prop :=
  rm.cells = 0 ∧ rm.slots = 0 ∧ rm.frames + 1 ≤ S.2.2.2.2.frames ∧ 8 + (maxL + 11) + rm.locals ≤ S.2.2.2.2.locals ∧ GoodIn S.2.2.2.1 ws ∧ (∃ ws', ws = Cond.code y bytes maxL ret :: ws') ∧ Cond.initialized y.cls ∈ S.2.2.2.1 ∧ (y.cls ≠ "java/lang/invoke/MethodHandle" ∧ y.cls ≠ "java/lang/invoke/VarHandle" ∧ (parseMethodDescriptor y.desc).map (fun d => d.parameters.length) = some n)
theorem zcw_B {idx n maxL : Nat} {y : MethodName} {bytes : ByteArray} {ret : Option FieldType} {ws : List Cond} {rm : Room} {s : State} {args : Array Value} (h : zCw S idx y bytes maxL ret ws rm n) (hts : ∀ q ∈ S.2.2.2.1, q.before args s = true) (hl : Cond.methodLink S.2.2.1 idx y ∈ S.2.2.2.1) : CallB S.2.2.2.2 s args S.2.2.1 idx y bytes maxL ret ws rm 0 0 n := by
  obtain ⟨h1, h2, h3, h4, h5, ⟨ws', h6⟩, h7, h8⟩ := h
  exact callB_of n hts h5 h6 h1 h2 (hts _ h7) (hts _ hl) h8 ⟨h3, h4⟩
theorem zcw_N {idx n maxL : Nat} {y : MethodName} {host : String} {bytes : ByteArray} {ret : Option FieldType} {ws : List Cond} {rm : Room} {s : State} {args : Array Value} (h : zCw S idx y bytes maxL ret ws rm n) (hts : ∀ q ∈ S.2.2.2.1, q.before args s = true) (hl : Cond.methodLinkNest S.2.2.1 idx y host ∈ S.2.2.2.1) : va_CN S.2.2.2.2 s args S.2.2.1 idx y host bytes maxL ret ws rm 0 0 n := by
  obtain ⟨h1, h2, h3, h4, h5, ⟨ws', h6⟩, h7, h8⟩ := h
  exact va_cnB n hts h5 h6 h1 h2 (hts _ hl) (hts _ h7) h8 ⟨h3, h4⟩
/-- a call's walk: from the arguments on the stack to the answer on it -/
def zCs (w : zN) (S : zS) (pc n : Nat) (vd : Bool) (rc : List Value) (mg : List Int32 → List Value) (F : List Int32 → zM → Option (Int32 × zM)) : Prop :=
  ∀ x : zK, zOk w S x → ∀ (vs : List Int32) (μ : zM) (r : Int32) (μ' : zM), F vs μ = some (r, μ') → ∀ (H : Heap) (ls : Array Slot) (lo : List Loc) (st : List Value), ls.size = S.2.1 → zH w x μ H lo → zc st ≤ 8 →
    (∀ (H1 : Heap) (lo1 : List Loc), zH w x μ' H1 lo1 → zW S x H1 lo1 (pc + 3) ls (match vd with | true => st | false => .int r :: st)) → zW S x H lo pc ls ((mg vs).reverse ++ (rc.reverse ++ st))
theorem zcs_run {n : Nat} {rc : List Value} {mg : List Int32 → List Value} {F : List Int32 → zM → Option (Int32 × zM)}
    (h : ∀ (p : Program) (l : Launch) (e : Jvm.Env) (s : State) (m : MethodId) (args : Array Value) (below : List Frame) (meth : Method) (c : Code) (Q : (State → Prop) × Nat × Nat), zOk w S (p, l, e, s, m, args, below, meth, c, Q) → ∀ (vs : List Int32) (μ : zM) (r : Int32) (μ' : zM), F vs μ = some (r, μ') → ∀ (H : Heap) (ls : Array Slot) (lo : List Loc) (st : List Value), ls.size = S.2.1 → zH w (p, l, e, s, m, args, below, meth, c, Q) μ H lo → zc st ≤ 8 →
      va_Run p l e S.2.2.2.2 s m args below meth c H lo Q.2.1 Q.2.2 0 0 (F0 m pc ls ((mg vs).reverse ++ (rc.reverse ++ st))) st (zQ w vd r μ' (rc ++ mg vs).toArray) (zFr w)) : zCs w S pc n vd rc mg F := by
  intro x hO vs μ r μ' hf H ls lo st hls hH hc k
  obtain ⟨p, l, e, s, m, args, below, meth, c, Q⟩ := x
  have hr := h p l e s m args below meth c Q hO vs μ r μ' hf H ls lo st hls hH hc
  have back : ∀ (t : State) (H1 : Heap) (lo1 : List Loc), t.heap = H1 → va_P (zD w) zcl (zws w μ') t.heap → va_S (zFr w) s.heap H1 lo1 → zH w (p, l, e, s, m, args, below, meth, c, Q) μ' H1 lo1 := fun t H1 lo1 ht hP hS => ⟨by rw [← ht]; exact hP, zws_D μ' hH.2.1, hS⟩
  cases vd with
  | true =>
    exact va_callv (a := (rc ++ mg vs).toArray) hr hH.2.2 (fun _ _ h => h) (fun _ h => h) fun u t H1 lo1 ht hvm hp hb hz1 hk1 hS => k H1 lo1 (back t H1 lo1 ht hb hS)
  | false =>
    exact va_calli (a := (rc ++ mg vs).toArray) hr hH.2.2 (fun _ _ h => h) (fun _ h => h) fun r' u t H1 lo1 ht hvm hp hb hz1 hk1 hS => by
      have hp : r' = r := hp
      rw [hp]
      exact k H1 lo1 (back t H1 lo1 ht hb hS)
theorem zcs_S {idx n maxL : Nat} {y : MethodName} {bytes : ByteArray} {ret : Option FieldType} {ws : List Cond} {rm : Room} {mg : List Int32 → List Value} {F : List Int32 → zM → Option (Int32 × zM)} (ct : zCt w vd y ws rm n [] mg F) (cw : zCw S idx y bytes maxL ret ws rm n) (hl : Cond.methodLink S.2.2.1 idx y ∈ S.2.2.2.1) (hst : Cond.static y ∈ S.2.2.2.1) (dd : decode S.1 pc = .ok (.invokestatic idx, 3)) : zCs w S pc n vd [] mg F := by
  refine zcs_run fun p l e s m args below meth c Q hO vs μ r μ' hf H ls lo st hls hH hc => ?_
  obtain ⟨c1, c2⟩ := ct vs μ r μ' hf
  have hpre := zPre_of hO hH
  obtain ⟨hx, hb, hml, hown, hts, hK, hk, -⟩ := hO
  exact va_runS ⟨hx, hb, hml, hown, hts⟩ (c2 l) ⟨zcw_B cw hts hl, hts _ hst⟩ ⟨zPre_blind, fun U hU hW => ⟨rfl, hpre U hU hW⟩⟩ rfl c1 hls rfl (lv_room hc) dd ⟨hk.2.1, hk.2.2⟩
theorem zcs_SN {idx n maxL : Nat} {y : MethodName} {host : String} {bytes : ByteArray} {ret : Option FieldType} {ws : List Cond} {rm : Room} {mg : List Int32 → List Value} {F : List Int32 → zM → Option (Int32 × zM)} (ct : zCt w vd y ws rm n [] mg F) (cw : zCw S idx y bytes maxL ret ws rm n) (hl : Cond.methodLinkNest S.2.2.1 idx y host ∈ S.2.2.2.1) (hst : Cond.static y ∈ S.2.2.2.1) (dd : decode S.1 pc = .ok (.invokestatic idx, 3)) : zCs w S pc n vd [] mg F := by
  refine zcs_run fun p l e s m args below meth c Q hO vs μ r μ' hf H ls lo st hls hH hc => ?_
  obtain ⟨c1, c2⟩ := ct vs μ r μ' hf
  have hpre := zPre_of hO hH
  obtain ⟨hx, hb, hml, hown, hts, hK, hk, -⟩ := hO
  exact va_runSN ⟨hx, hb, hml, hown, hts⟩ (c2 l) ⟨zcw_N cw hts hl, hts _ hst, trivial⟩ ⟨zPre_blind, fun U hU hW => ⟨rfl, hpre U hU hW⟩⟩ rfl c1 hls rfl (lv_room hc) dd ⟨hk.2.1, hk.2.2⟩
theorem zrecv {x : zK} {μ : zM} {H : Heap} {lo : List Loc} {b ci : Nat} {fl : List (Option (Option Nat))} {CC : String} {T : u_T} {nn : Nat} (hO : zOk w S x) (hH : zH w x μ H lo) (hb : b ∈ znm w) (hs : zsh w b = (2, ci, fl)) (hci : zcl[ci]? = some (CC, T, nn)) : ∃ cell : Cell, H[zad w b]? = some cell ∧ cell.vm.isStatics = false ∧ x.2.2.2.1.vm.findClass CC = some cell.cls := by
  obtain ⟨q, g1, g2⟩ := zws_h hH hb
  rw [zce_2 hs] at g2
  obtain ⟨p, l, e, s, m, args, below, meth, c, Q⟩ := x
  obtain ⟨hx, hb, hml, hown, hts, hK, -⟩ := hO
  exact va_recv hK hH.1 hci g2
theorem zcs_V {idx n maxL b ci nn : Nat} {fl : List (Option (Option Nat))} {CC : String} {T : u_T} {y : MethodName} {bytes : ByteArray} {ret : Option FieldType} {ws : List Cond} {rm : Room} {mg : List Int32 → List Value} {F : List Int32 → zM → Option (Int32 × zM)} (ct : zCt w vd y ws rm n [.ref (zad w b)] mg F) (cw : zCw S idx y bytes maxL ret ws rm n) (hl : Cond.methodLink S.2.2.1 idx y ∈ S.2.2.2.1) (hin : Cond.instanceMethod y ∈ S.2.2.2.1) (hse : Cond.selects CC y y ∈ S.2.2.2.1) (hbm : b ∈ znm w) (hs : zsh w b = (2, ci, fl)) (hci : zcl[ci]? = some (CC, T, nn)) (dd : decode S.1 pc = .ok (.invokevirtual idx, 3)) : zCs w S pc n vd [.ref (zad w b)] mg F := by
  refine zcs_run fun p l e s m args below meth c Q hO vs μ r μ' hf H ls lo st hls hH hc => ?_
  obtain ⟨c1, c2⟩ := ct vs μ r μ' hf
  have hpre := zPre_of hO hH
  have hrec := zrecv hO hH hbm hs hci
  obtain ⟨hx, hb, hml, hown, hts, hK, hk, -⟩ := hO
  exact va_runV ⟨hx, hb, hml, hown, hts⟩ (c2 l) ⟨zcw_B cw hts hl, hts _ hin, hts _ hse⟩ ⟨zPre_blind, hrec, fun U hU hW => ⟨rfl, hpre U hU hW⟩⟩ rfl c1 hls rfl (lv_room hc) dd ⟨hk.2.1, hk.2.2⟩
theorem zcs_VN {idx n maxL b ci nn : Nat} {fl : List (Option (Option Nat))} {CC host : String} {T : u_T} {y : MethodName} {bytes : ByteArray} {ret : Option FieldType} {ws : List Cond} {rm : Room} {mg : List Int32 → List Value} {F : List Int32 → zM → Option (Int32 × zM)} (ct : zCt w vd y ws rm n [.ref (zad w b)] mg F) (cw : zCw S idx y bytes maxL ret ws rm n) (hl : Cond.methodLinkNest S.2.2.1 idx y host ∈ S.2.2.2.1) (hin : Cond.instanceMethod y ∈ S.2.2.2.1) (hse : Cond.selects CC y y ∈ S.2.2.2.1) (hbm : b ∈ znm w) (hs : zsh w b = (2, ci, fl)) (hci : zcl[ci]? = some (CC, T, nn)) (dd : decode S.1 pc = .ok (.invokevirtual idx, 3)) : zCs w S pc n vd [.ref (zad w b)] mg F := by
  refine zcs_run fun p l e s m args below meth c Q hO vs μ r μ' hf H ls lo st hls hH hc => ?_
  obtain ⟨c1, c2⟩ := ct vs μ r μ' hf
  have hpre := zPre_of hO hH
  have hrec := zrecv hO hH hbm hs hci
  obtain ⟨hx, hb, hml, hown, hts, hK, hk, -⟩ := hO
  exact va_runVN ⟨hx, hb, hml, hown, hts⟩ (c2 l) ⟨zcw_N cw hts hl, hts _ hin, hts _ hse⟩ ⟨zPre_blind, hrec, fun U hU hW => ⟨rfl, hpre U hU hW⟩⟩ rfl c1 hls rfl (lv_room hc) dd ⟨hk.2.1, hk.2.2⟩
/-! calls in expressions and as statements -/
theorem ze_cs (p2 : Nat) {n : Nat} {mg : List Int32 → List Value} {a : zA} {F : List Int32 → zM → Option (Int32 × zM)} (hd : d ≤ 8) (h2 : zAv w S κ d pc p2 mg a) (cs : zCs w S p2 n false [] mg F) : zEv w S κ d pc (p2 + 3) (zcall F a) := by
  intro x hO ρ μ v' μ' hf H ls lo st hL hH hc k
  unfold zcall at hf
  split at hf
  · cases hf
  · rename_i vs μ1 e1
    exact h2 x hO ρ μ _ _ e1 H ls lo st hL hH hc fun H1 lo1 hH1 => cs x hO vs μ1 v' μ' hf H1 ls lo1 st hL.1 hH1 (Nat.le_trans hc hd) k
theorem ze_cv (p1 p2 : Nat) {n b : Nat} {mg : List Int32 → List Value} {a : zA} {F : List Int32 → zM → Option (Int32 × zM)} (hd : d ≤ 8) (h1 : zRv w S κ pc p1 b) (h2 : zAv w S κ (d + 1) p1 p2 mg a) (cs : zCs w S p2 n false [.ref (zad w b)] mg F) : zEv w S κ d pc (p2 + 3) (zcall F a) := by
  intro x hO ρ μ v' μ' hf H ls lo st hL hH hc k
  unfold zcall at hf
  split at hf
  · cases hf
  · rename_i vs μ1 e1
    exact h1 x hO ρ μ H ls lo st hL hH (h2 x hO ρ μ _ _ e1 H ls lo _ hL hH (by rw [zc_ref]; omega) fun H1 lo1 hH1 => cs x hO vs μ1 v' μ' hf H1 ls lo1 st hL.1 hH1 (Nat.le_trans hc hd) k)
theorem zs_cs (p2 : Nat) {n : Nat} {mg : List Int32 → List Value} {a : zA} {F : List Int32 → zM → Option (Int32 × zM)} (h2 : zAv w S κ 0 pc p2 mg a) (cs : zCs w S p2 n true [] mg F) (hr : zRch S.1 3 (p2 + 3) N) : zSj w S κ vd pc N B C (zex (zcall F a)) := by
  intro x hO ρ μ t v ρ' μ' hf H ls lo hL hH k0 k1 k2 k3
  unfold zex zcall at hf
  cases e1 : a ρ μ with
  | none => simp only [e1] at hf; cases hf
  | some q =>
    obtain ⟨vs, μ1⟩ := q
    simp only [e1] at hf
    split at hf
    · cases hf
    · rename_i r μ2 e2
      cases hf
      exact h2 x hO ρ μ _ _ e1 H ls lo [] hL hH (Nat.le_refl _) fun H1 lo1 hH1 => cs x hO vs μ1 _ _ e2 H1 ls lo1 [] hL.1 hH1 (Nat.zero_le _) fun H2 lo2 hH2 => zW_r hO hr (k0 rfl H2 ls lo2 hL hH2)
theorem zs_cv (p1 p2 : Nat) {n b : Nat} {mg : List Int32 → List Value} {a : zA} {F : List Int32 → zM → Option (Int32 × zM)} (h1 : zRv w S κ pc p1 b) (h2 : zAv w S κ 1 p1 p2 mg a) (cs : zCs w S p2 n true [.ref (zad w b)] mg F) (hr : zRch S.1 3 (p2 + 3) N) : zSj w S κ vd pc N B C (zex (zcall F a)) := by
  intro x hO ρ μ t v ρ' μ' hf H ls lo hL hH k0 k1 k2 k3
  unfold zex zcall at hf
  cases e1 : a ρ μ with
  | none => simp only [e1] at hf; cases hf
  | some q =>
    obtain ⟨vs, μ1⟩ := q
    simp only [e1] at hf
    split at hf
    · cases hf
    · rename_i r μ2 e2
      cases hf
      exact h1 x hO ρ μ H ls lo [] hL hH (h2 x hO ρ μ _ _ e1 H ls lo _ hL hH (by simp [zc, Value.category]) fun H1 lo1 hH1 => cs x hO vs μ1 _ _ e2 H1 ls lo1 [] hL.1 hH1 (Nat.zero_le _) fun H2 lo2 hH2 => zW_r hO hr (k0 rfl H2 ls lo2 hL hH2))
/-- System.arraycopy -/
theorem zs_cy (p1 p2 p3 p4 p5 : Nat) {n n' len len' idx : Nat} {fl fl' : List (Option (Option Nat))} {sp dp q : zX} (h1 : zRv w S κ pc p1 n) (h2 : zEv w S κ 1 p1 p2 sp) (h3 : zRv w S κ p2 p3 n') (h4 : zEv w S κ 3 p3 p4 dp) (h5 : zEv w S κ 4 p4 p5 q) (hn : n ∈ znm w) (hs : zsh w n = (0, len, fl)) (hn' : n' ∈ znm w) (hs' : zsh w n' = (0, len', fl')) (dd : decode S.1 p5 = .ok (.invokestatic idx, 3)) (w1 : Cond.methodLink S.2.2.1 idx arraycopyName ∈ S.2.2.2.1) (w2 : Cond.native arraycopyName ∈ S.2.2.2.1) (w3 : Cond.static arraycopyName ∈ S.2.2.2.1) (w4 : Cond.initialized "java/lang/System" ∈ S.2.2.2.1) (hfr : 1 ≤ S.2.2.2.2.frames) (hlo : 40 ≤ S.2.2.2.2.locals) (hr : zRch S.1 3 (p5 + 3) N) : zSj w S κ vd pc N B C (zcy n n' len len' sp dp q) := by
  intro x hO ρ μ t v ρ' μ' hf H ls lo hL hH k0 k1 k2 k3
  unfold zcy at hf
  split at hf
  · cases hf
  · rename_i a μ1 e1
    split at hf
    · cases hf
    · rename_i b μ2 e2
      split at hf
      · cases hf
      · rename_i z μ3 e3
        split at hf
        · rename_i hin
          cases hf
          refine h1 x hO ρ μ H ls lo [] hL hH (h2 x hO ρ μ _ _ e1 H ls lo _ hL hH (by simp [zc, Value.category]) fun H1 lo1 hH1 => h3 x hO ρ μ1 H1 ls lo1 _ hL hH1 (h4 x hO ρ _ _ _ e2 H1 ls lo1 _ hL hH1 (by simp [zc, Value.category]) fun H2 lo2 hH2 => h5 x hO ρ _ _ _ e3 H2 ls lo2 _ hL hH2 (by simp [zc, Value.category]) fun H3 lo3 hH3 => ?_))
          obtain ⟨i0, g1, g2⟩ := zws_h hH3 hn
          rw [zce_0 hs] at g2
          obtain ⟨i1, g3, g4⟩ := zws_h hH3 hn'
          rw [zce_0 hs'] at g4
          have hp := fun f H1 lo1 => zar_put (μ := μ3) (f := f) (H1 := H1) (lo1 := lo1) hO g3 (zce_0 hs')
          have kk := fun H4 lo4 hH4 => zW_r hO hr (k0 rfl H4 ls lo4 hL hH4)
          obtain ⟨ha, hb0, hq, hl1, hl2⟩ := hin
          have nlt : ∀ {u : Int32}, 0 ≤ u.toInt → ¬ u < 0 := fun {u} h q => by
            have := Int32.lt_iff_toInt_lt.mp q
            have h0 : (0 : Int32).toInt = 0 := rfl
            omega
          have ea : ∀ u : Int32, u.toNatClampNeg = u.toInt.toNat := fun _ => rfl
          obtain ⟨p, l, e, s, m, args, below, meth, c, Q⟩ := x
          obtain ⟨hx, hb, hml, hown, hts, hK, -⟩ := hO
          have hroom : (([] : List Value).map fun v => v.category).sum + (nativeFrameWords "java/lang/System" "arraycopy" 5 + 11) ≤ S.2.2.2.2.locals := Nat.le_trans (Nat.le_of_ble_eq_true rfl) hlo
          exact va_copyi hx hb (hml.trans hL.1.symm) hown (hts _ w1) (hts _ w2) (hts _ w3) (hts _ w4) hK hH3.1 hH3.2.1 hH3.2.2 i0 i1 0 0 g2 g4 rfl rfl rfl (nlt ha) (nlt hb0) (nlt hq) (by rw [ea, ea]; omega) (by rw [ea, ea]; omega) (fun i _ => rfl) hfr hroom dd fun H4 lo4 a1 a2 a3 => kk H4 lo4 (hp _ H4 lo4 a1 a2 a3)
        · cases hf
/-! a method -/
theorem zenv_mem : ∀ {l : List (Nat × Int32)} {k : Nat} {v : Int32}, zenv l k = some v → (k, v) ∈ l
  | [], _, _, h => by cases h
  | (a, b) :: l, k, v, h => by
    have h : zup (zenv l) a b k = some v := h
    unfold zup at h
    by_cases hk : k = a
    · rw [if_pos hk] at h
      cases h
      rw [hk]
      exact List.mem_cons_self
    · rw [if_neg hk] at h
      exact List.mem_cons_of_mem _ (zenv_mem h)
/-- how a method's contract comes out of its body; ρ0: its numbers, κ: its references, as the arguments lie in the slots -/
theorem zmet {y : MethodName} {ws ws' : List Cond} {rm : Room} {cc : ByteArray} {maxL n : Nat} {ret : Option FieldType} {body : zT} {av rc : List Value} {l0 : List (Nat × Int32)} {μ μ' : zM} {r : Int32} {pe : Nat}
    (hy : plainName y.cls = true) (hw : ws = Cond.code y cc maxL ret :: ws') (hret : match vd with | true => ret = none | false => ∃ ty, ret = some ty ∧ narrow ty (.int r) = .int r)
    (hj : zSj w (cc, maxL, y.cls, ws, rm) κ vd 0 pe 0 0 body) (hrm : rm.cells = 0 ∧ rm.slots = 0)
    (hsz : (lg_sl av).length ≤ maxL) (hl0 : ∀ q ∈ l0, (q.1, Value.int q.2) ∈ lv_args 0 av) (hκ : ∀ q ∈ κ, (q.1, Value.ref (zad w q.2)) ∈ lv_args 0 av)
    (hb : ∃ (t : Nat) (v : Int32) (ρ' : zE), body (zenv l0) μ = some (t, v, ρ', μ') ∧ ((t = 3 ∧ (vd = true ∨ v = r)) ∨ (t = 0 ∧ vd = true ∧ decode cc pe = .ok (.return_, 1)))) (l : Launch) :
    Met l y ws rm (va_Pc av (zPre w μ)) (zQ w vd r μ') 0 0 (zFr w) := by
  refine Met.ofW (cc := cc) (maxL := maxL) (ret := ret) hy hw ?_
  intro p e s m args below meth c s₁ B hml hv
  obtain ⟨rfl, hP, hK, hD, hG, hn⟩ := hv
  have hx := B.exec
  have hbb := B.bytes
  have hr := B.returns
  have hts := atoms_spec (ws := ws) B.pre
  have hown : s.vm.findClass y.cls = some m.cls := findClass_of_methodNamed B.named
  have hlocks := B.notSynchronized
  have hl := lv_entry av (n := maxL) hsz
  rw [lg_entry_eq]
  generalize (lg_sl av ++ List.replicate (maxL - (lg_sl av).length) Slot.unset).toArray = ls at hl ⊢
  obtain ⟨t, v, ρ', hb1, hb2⟩ := hb
  have hO : zOk w (cc, maxL, y.cls, ws, rm) (p, l, e, s, m, av.toArray, below, meth, c, MQ below (zQ w vd r μ') av.toArray s 0 0 (zFr w), 0, 0) := ⟨hx, hbb, hml, hown, hts, hK, ⟨hlocks, Nat.zero_le _, Nat.zero_le _⟩, hn, hG⟩
  have hH : zH w (p, l, e, s, m, av.toArray, below, meth, c, MQ below (zQ w vd r μ') av.toArray s 0 0 (zFr w), 0, 0) μ s.heap [] := ⟨hP, hD, va_S.rf⟩
  have hL : zL w (cc, maxL, y.cls, ws, rm) κ ls (zenv l0) := ⟨hl.1, hl.2.1, fun k v h => hl.2.2 _ (hl0 _ (zenv_mem h)), fun q hq => hl.2.2 _ (hκ q hq)⟩
  have hend : ∀ (H' : Heap) (lo' : List Loc), zH w (p, l, e, s, m, av.toArray, below, meth, c, MQ below (zQ w vd r μ') av.toArray s 0 0 (zFr w), 0, 0) μ' H' lo' → (vd = true ∨ v = r) → zEnd (cc, maxL, y.cls, ws, rm) vd (p, l, e, s, m, av.toArray, below, meth, c, MQ below (zQ w vd r μ') av.toArray s 0 0 (zFr w), 0, 0) H' lo' v := by
    intro H' lo' hH' hvr pc' ls'
    cases vd with
    | true =>
      intro dd
      have hret : ret = none := hret
      exact W.vret hx hbb (hr.trans hret) (fun t ht hW => ⟨⟨(), rfl, trivial, by show va_P (zD w) zcl (zws w μ') t.heap; rw [ht]; exact hH'.1⟩, hH'.2.2.F ht⟩) hH'.2.2.2.2 dd
    | false =>
      intro dd
      obtain ⟨ty, hret, hna⟩ := hret
      have hv : v = r := by
        rcases hvr with h | h
        · cases h
        · exact h
      rw [hv]
      exact W.zret hx hbb (hr.trans hret) hna (fun t ht hW => ⟨⟨r, (), rfl, rfl, by show va_P (zD w) zcl (zws w μ') t.heap; rw [ht]; exact hH'.1⟩, hH'.2.2.F ht⟩) hH'.2.2.2.2 dd
  have key := hj _ hO _ _ _ _ _ _ hb1 s.heap ls [] hL hH (fun h0 H' ls' lo' hL' hH' => ?_) (fun h1 => ?_) (fun h2 => ?_) (fun h3 H' lo' hH' => ?_)
  · exact key
  · rcases hb2 with ⟨h3, -⟩ | ⟨-, hvd, hde⟩
    · omega
    · subst hvd
      exact hend H' lo' hH' (Or.inl rfl) pe ls' hde
  · rcases hb2 with ⟨h3, -⟩ | ⟨h3, -⟩ <;> omega
  · rcases hb2 with ⟨h3, -⟩ | ⟨h3, -⟩ <;> omega
  · rcases hb2 with ⟨-, hvr⟩ | ⟨h0, -⟩
    · exact hend H' lo' hH' hvr
    · omega
end ZMT2
