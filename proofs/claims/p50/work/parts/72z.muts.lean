-- ===== numbers changed: more =====
section ZMU
variable {M M' : zM}
theorem upM_f {q f : Nat} {v : Int} (h : f ≠ 40) : upM M q v f = M f := by unfold upM; exact up2_o h
theorem upM_q {q j : Nat} {v : Int} (h : j ≠ q) : upM M q v 40 j = M 40 j := by unfold upM; exact up2_k h
theorem upM_p {q : Nat} {v : Int} (k : Nat) : patM (upM M q v) k = patM M k := patM_eq (upM_f (by decide)) (upM_f (by decide)) (upM_f (by decide)) k
theorem set_f {n q f : Nat} {v : Int} (h : f ≠ 17) : up2 M 17 (11 * n + q) v f = M f := up2_o h
theorem set_d {n q k : Nat} {v : Int} (hq : q < 11) (h : k ≠ n) : serM (up2 M 17 (11 * n + q) v) k = serM M k ∧ useM (up2 M 17 (11 * n + q) v) k = useM M k ∧ excM (up2 M 17 (11 * n + q) v) k = excM M k := ⟨serM_oth hq h, useM_f (up2_o (by decide)) patM_17 _, excM_f (up2_o (by decide)) _⟩
end ZMU
