/-! ===== the class: checksum ===== -/
section XVT
variable {G : XE} {M Mc : XMI} {d mc ms nb0 : Nat} {ad0 : Nat → Nat} {Qn : XH → Option Value → Prop} {Qx : XH → String → Prop} {N N1 : XH} {cells slots pc pc' t : Nat} {L : List (Option Value)}
end XVT
theorem n_nI {j : Nat} (h : j < 2147483648) : n_ (nI j) = j := nI_clamp h
