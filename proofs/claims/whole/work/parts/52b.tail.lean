/-! what follows two calls in the law's body -/
section FLATV
variable {p : Program} {l : Launch} {e : Env} {s : State} {m : MethodId} {args : Array Value} {below : List Frame} {meth : Method} {c : Code} {Q : State → Prop} {w : Wd} {cs sl pc : Nat} {sg : Sg} {L : Nat} {xs : Nat → Int32}
set_option maxHeartbeats 4000000 in
set_option maxRecDepth 100000 in
/-- the reference has answered b, the wrapper k: both are compared -/
theorem V_tail {i k b : Int32} {u : Option VV} {B : Nat} {off : Int} (h : LC l p s m args meth c L xs w) (hcell : cs ≤ 601024 ∧ sl ≤ 7293034) (hD : Dn 0 331 339 w B k b sg)
    (d0 : Dk mtL_law pc (.istore 6) 2 (pc + 2)) (d1 : Dk mtL_law (pc + 2) (.aload_n 2) 1 (pc + 3)) (d2 : Dk mtL_law (pc + 3) (.invokevirtual 107) 3 (pc + 6)) (d3 : Dk mtL_law (pc + 6) (.iload 5) 2 (pc + 8)) (d4 : Dk mtL_law (pc + 8) (.if_icmp .eq 5) 3 (pc + 11)) (d5 : Dk mtL_law (pc + 13) (.iload 5) 2 (pc + 15)) (d6 : Dk mtL_law (pc + 15) (.ifCond .ne 15) 3 (pc + 18)) (d7 : Dk mtL_law (pc + 18) (.aload_n 3) 1 (pc + 19)) (d8 : Dk mtL_law (pc + 19) (.iconst 0) 1 (pc + 20)) (d9 : Dk mtL_law (pc + 20) .laload 1 (pc + 21)) (d10 : Dk mtL_law (pc + 21) (.iload 6) 2 (pc + 23)) (d11 : Dk mtL_law (pc + 23) .i2l 1 (pc + 24)) (d12 : Dk mtL_law (pc + 24) .lcmp 1 (pc + 25)) (d13 : Dk mtL_law (pc + 25) (.ifCond .eq 5) 3 (pc + 28)) (d14 : Dk mtL_law (pc + 30) (.goto off) 3 (pc + 33)) (ho : ((pc + 30 : Nat) : Int) + off = ((1906 : Nat) : Int))
    (kk : ∀ n c', T2 0 331 n c' (B + 60) sg → V p l e (mRm mtL_law) s m args below meth c mtL_law w Q cs sl 1906 (lloc i none none) [] sg) : V p l e (mRm mtL_law) s m args below meth c mtL_law w Q cs sl pc (lloc i (some (vI k)) u) [vI b] sg := by
  obtain ⟨hC, -, hWr, -⟩ := id h
  obtain ⟨hk, hb, n, c', hT⟩ := hD
  have kend : V p l e (mRm mtL_law) s m args below meth c mtL_law w Q cs sl (pc + 30) (lloc i (some (vI k)) (some (vI b))) [] sg := by
    refine V_goto hC 1906 d14 ho ?_
    refine V_drop 5 (lloc i none (some (vI b))) rfl ?_
    refine V_drop 6 (lloc i none none) rfl ?_
    exact kk n c' hT
  refine V_istore hC (lloc i (some (vI k)) (some (vI b))) d0 (by cases u <;> rfl) (Nat.le_of_ble_eq_true rfl) ?_
  refine V_aload_n hC d1 rfl ?_
  refine V_cV_fI hC (ct_thrown hWr) mkX6_thrown lmL_107 d2 (by decide) rfl rfl rfl (Nat.le_of_ble_eq_true rfl) ⟨(Nat.le_of_ble_eq_true rfl), (Nat.le_of_ble_eq_true rfl)⟩ ⟨rfl, rfl⟩ hcell ?_
  refine V_iload hC d3 rfl ?_
  refine V_icmp_eq hC (pc + 13) d4 (by omega) (fun _ => ?_) (fun z => absurd hk z)
  refine V_iload hC d5 rfl ?_
  refine V_if_ne hC (pc + 30) d6 (by omega) (fun _ => kend) (fun z => ?_)
  refine V_aload_n hC d7 rfl ?_
  refine V_iconst hC (0) d8 (by decide) ?_
  refine V_lald hC 0 rfl d9 (vp_lit rfl) ?_
  rw [hb z]
  refine V_iload hC d10 rfl ?_
  refine V_i2l hC d11 ?_
  refine V_lcmp hC d12 ?_
  exact V_if_eq hC (pc + 30) d13 (by omega) (fun _ => kend) (fun y => absurd (lg_same _) y)
set_option maxHeartbeats 4000000 in
set_option maxRecDepth 100000 in
/-- two answers of calls that don't throw are compared -/
theorem V_tail2 {i a b : Int32} {B : Nat} {off : Int} (h : LC l p s m args meth c L xs w) (hD : Dd 0 331 B a b sg) (d0 : Dk mtL_law pc (.if_icmp .eq off) 3 (pc + 3)) (ho : (pc : Int) + off = ((1906 : Nat) : Int))
    (kk : ∀ n c', T2 0 331 n c' (B + 60) sg → V p l e (mRm mtL_law) s m args below meth c mtL_law w Q cs sl 1906 (lloc i none none) [] sg) : V p l e (mRm mtL_law) s m args below meth c mtL_law w Q cs sl pc (lloc i none none) [vI b, vI a] sg := by
  obtain ⟨hab, n, c', hT⟩ := hD
  exact V_icmp_eq h.1 1906 d0 ho (fun _ => kk n c' hT) (fun z => absurd hab z)
end FLATV
