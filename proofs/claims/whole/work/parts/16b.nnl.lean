/-! a reference that is not null, tested by ifnonnull -/
section NNL
variable {w : zN} {S : zS} {κ : List (Nat × Nat)} {d pc : Nat}
theorem zc_nnl0 (p1 : Nat) {n ci k n' T F t : Nat} {off : Int} {fl : List (Option (Option Nat))} (h1 : zRv w S κ pc p1 n) (h2 : zGf S p1 ci k) (hn : n ∈ znm w) (hs : zsh w n = (2, ci, fl)) (hf : fl[k]? = some (some (some n'))) (dd : decode S.1 (p1 + 3) = .ok (.ifnonnull off, 3)) (ht : ((p1 + 3 : Nat) : Int) + off = (t : Int)) (hF : zRch S.1 3 t F) : zCj w S κ d pc T F (zcb false) := by
  intro x hO ρ μ v' μ' hq H ls lo st hL hH hc k1 k2
  cases hq
  refine h1 x hO ρ μ H ls lo st hL hH (h2 w x hO μ n fl _ H ls lo st hH hn hs (zfs_get hf) ?_)
  have k9 := zW_r hO hF (k2 H lo hH rfl)
  obtain ⟨p, l, e, s, m, args, below, meth, c, Q⟩ := x
  exact lv_ifnonnull hO.1 hO.2.1 dd ht k9
end NNL
