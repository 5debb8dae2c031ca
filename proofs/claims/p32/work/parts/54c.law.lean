theorem mkL_holds : MkS mtL_holds 1 := ⟨List.mem_of_getElem? (i := 728) (by decide +kernel), by decide +kernel, by decide +kernel, ⟨by decide +kernel, by decide +kernel, by decide +kernel⟩⟩
theorem lxL_87 : Cond.methodLink RL 87 (mY mtL_holds) ∈ lw_tbl := by decide +kernel
theorem mkL_cell : MkS mtL_cell 2 := ⟨List.mem_of_getElem? (i := 620) (by decide +kernel), by decide +kernel, by decide +kernel, ⟨by decide +kernel, by decide +kernel, by decide +kernel⟩⟩
theorem lxL_72 : Cond.methodLink RL 72 (mY mtL_cell) ∈ lw_tbl := by decide +kernel
theorem mkL_told : MkS mtL_told 1 := ⟨List.mem_of_getElem? (i := 623) (by decide +kernel), by decide +kernel, by decide +kernel, ⟨by decide +kernel, by decide +kernel, by decide +kernel⟩⟩
theorem lxL_76 : Cond.methodLink RL 76 (mY mtL_told) ∈ lw_tbl := by decide +kernel
theorem mkL_act : MkS mtL_act 3 := ⟨List.mem_of_getElem? (i := 657) (by decide +kernel), by decide +kernel, by decide +kernel, ⟨by decide +kernel, by decide +kernel, by decide +kernel⟩⟩
theorem lxL_80 : Cond.methodLink RL 80 (mY mtL_act) ∈ lw_tbl := by decide +kernel
theorem mkX5_undo : MkV mtX5_undo 0 := ⟨List.mem_of_getElem? (i := 368) (by decide +kernel), by decide +kernel, by decide +kernel, by decide +kernel, ⟨by decide +kernel, by decide +kernel, by decide +kernel⟩⟩
theorem lxL_84 : Cond.methodLink RL 84 (mY mtX5_undo) ∈ lw_tbl := by decide +kernel
theorem lcL_91 : Cond.constantLong RL 91 (9) ∈ lw_tbl := by decide +kernel
theorem mkX5_simulate : MkV mtX5_simulate 2 := ⟨List.mem_of_getElem? (i := 430) (by decide +kernel), by decide +kernel, by decide +kernel, by decide +kernel, ⟨by decide +kernel, by decide +kernel, by decide +kernel⟩⟩
theorem lxL_93 : Cond.methodLink RL 93 (mY mtX5_simulate) ∈ lw_tbl := by decide +kernel
theorem mkX5_restore : MkV mtX5_restore 1 := ⟨List.mem_of_getElem? (i := 607) (by decide +kernel), by decide +kernel, by decide +kernel, by decide +kernel, ⟨by decide +kernel, by decide +kernel, by decide +kernel⟩⟩
theorem lxL_97 : Cond.methodLink RL 97 (mY mtX5_restore) ∈ lw_tbl := by decide +kernel
theorem nP_le {sg : Sg} {y N : Nat} {G : Nat → Gs} {K : Nat → Bool} {S : Nat → Gs} (h : MRel sg y N G K S) : nPush N ≤ 15 := by
  obtain ⟨f, h1, h2, -⟩ := h
  unfold nPush
  split <;> omega
theorem KR_0 {K : Nat → Bool} (h : K 0 = true) : KR K 0 = 0 := by
  unfold KR
  rw [if_pos (by decide), if_pos (by rw [show tn 0 = 0 by decide]; exact h)]
/-! the law's body -/
section LAW
variable {p : Program} {l : Launch} {e : Env} {s : State} {m : MethodId} {below : List Frame} {meth : Method} {c : Code} {w : Wd} {sg : Sg} {b i N : Nat} {G : Nat → Gs} {K : Nat → Bool} {S : Nat → Gs} {g : Gs}
theorem V_lawret {pc cs sl : Nat} {nx : Nat} {loc : List (Option VV)} (h : LC l p s m #[Value.ref b] meth c w) (hd : Dk mtL_law pc .ireturn 1 nx) (hcell : cs ≤ 600074 ∧ sl ≤ 7301550) : V p l e (mRm mtL_law) s m #[Value.ref b] below meth c mtL_law w (lw_Z below #[Value.ref b] s) cs sl pc loc [vI 1] sg := by
  refine V_wd hcell ?_
  obtain ⟨hC, hX, hWr, hBs, hl0⟩ := id h
  intro H locs ls hP hS hL hO
  obtain ⟨hx, hb, hml, hown, hts, hlk, hr, -, hW⟩ := hC
  exact va_forget (fun q hq => Nat.le_trans hBs (hS.2.2 q hq)) (lw_ret hx hb hr hlk hd.1)
set_option maxHeartbeats 8000000 in
set_option maxRecDepth 100000 in
theorem law_183 {v0 w0 c0 : Int32} {a0 d0 : Int64} (hi : i < 36) (h : LC l p s m #[Value.ref b] meth c w) (hT : Tm sg g N G K S) (hJ : J (120 * (i + 1)) g) (ih : ∀ sg' g' N' G', Tm sg' g' N' G' K S → J (120 * (i + 1)) g' → V p l e (mRm mtL_law) s m #[Value.ref b] below meth c mtL_law w (lw_Z below #[Value.ref b] s) (400 + 1013 * (i + 1)) (8000 + 6078 * (i + 1)) 50 (lloc (i + 1)) [] sg') : V p l e (mRm mtL_law) s m #[Value.ref b] below meth c mtL_law w (lw_Z below #[Value.ref b] s) (400 + 1013 * i + 813) (8000 + 6078 * i + 4878) 183 [some (vR (some (21, 0, 2000000))), some (vR (some (5, 0, 0))), some (vI (nI i)), some (vI v0), some (vI w0), some (vL a0), none, some (vI c0), some (vL d0), none] [] sg := by
  obtain ⟨hC, hX, hWr, hBs, hl0⟩ := id h
  obtain ⟨hR, hm, hBt, hK0, hS0⟩ := id hT
  have hI := hJ.1
  refine V_aload_n hC kL_law_183 rfl ?_
  refine V_cSh 200 1200 hC hX (cp_holds hWr hl0 hR hJ (by omega)) mkL_holds lxL_87 kL_law_184 rfl rfl (Nat.le_of_ble_eq_true rfl) ⟨(Nat.le_of_ble_eq_true rfl), (Nat.le_of_ble_eq_true rfl)⟩ ⟨rfl, rfl⟩ ⟨(by show _ ≤ 600074; omega), (by show _ ≤ 7301550; omega)⟩ (fun g184 h184 => ?_)
  rw [h184]
  refine V_if_ne hC 192 kL_law_187 (by decide) (fun h187 => ?_) (fun h187 => absurd h187 (by decide))
  refine V_iinc hC (_ + 1) [some _, some _, some _, some _, some _, some _, none, some _, some _, none] kL_law_192 rfl rfl rfl (Nat.le_of_ble_eq_true rfl) ?_
  refine V_goto hC 50 kL_law_195 (by decide) ?_
  refine V_drop 3 [_, _, _, none, _, _, _, _, _, _] rfl ?_
  refine V_drop 4 [_, _, _, _, none, _, _, _, _, _] rfl ?_
  refine V_drop 5 [_, _, _, _, _, none, _, _, _, _] rfl ?_
  refine V_drop 7 [_, _, _, _, _, _, _, none, _, _] rfl ?_
  refine V_drop 8 [_, _, _, _, _, _, _, _, none, _] rfl ?_
  refine V_wd ⟨by omega, by omega⟩ (V_eq ?_ rfl (ih sg g N G hT hJ))
  rw [nI_succ' i]
set_option maxHeartbeats 8000000 in
set_option maxRecDepth 100000 in
theorem law_76 (v : Int32) (hi : i < 36) (h : LC l p s m #[Value.ref b] meth c w) (hT : Tm sg g N G K S) (hJ : J (120 * i) g) (ih : ∀ sg' g' N' G', Tm sg' g' N' G' K S → J (120 * (i + 1)) g' → V p l e (mRm mtL_law) s m #[Value.ref b] below meth c mtL_law w (lw_Z below #[Value.ref b] s) (400 + 1013 * (i + 1)) (8000 + 6078 * (i + 1)) 50 (lloc (i + 1)) [] sg') : V p l e (mRm mtL_law) s m #[Value.ref b] below meth c mtL_law w (lw_Z below #[Value.ref b] s) (400 + 1013 * i + 1) (8000 + 6078 * i + 6) 76 [some (vR (some (21, 0, 2000000))), some (vR (some (5, 0, 0))), some (vI (nI i)), none, none, none, none, none, none, none] [vI v] sg := by
  obtain ⟨hC, hX, hWr, hBs, hl0⟩ := id h
  obtain ⟨hR, hm, hBt, hK0, hS0⟩ := id hT
  have hI := hJ.1
  refine V_istore_n hC [some _, some _, some _, some _, none, none, none, none, none, none] kL_law_76 rfl (Nat.le_of_ble_eq_true rfl) ?_
  refine V_aload_n hC kL_law_77 rfl ?_
  refine V_iconst hC (2) kL_law_78 (by decide) ?_
  refine V_iload_n hC kL_law_79 rfl ?_
  refine V_imul hC kL_law_80 ?_
  refine V_iconst hC (1) kL_law_81 (by decide) ?_
  refine V_iadd hC kL_law_82 ?_
  rw [show (2 : Int32) * nI i + 1 = nI (2 * i + 1) by rw [← nI_add, ← pk_mul]; rfl]
  refine V_cSy 1 6 hC hX (cp_cell hWr hl0 (n := 2 * i + 1) (by omega)) mkL_cell lxL_72 kL_law_83 rfl rfl (Nat.le_of_ble_eq_true rfl) ⟨(Nat.le_of_ble_eq_true rfl), (Nat.le_of_ble_eq_true rfl)⟩ ⟨rfl, rfl⟩ ⟨(by show _ ≤ 600074; omega), (by show _ ≤ 7301550; omega)⟩ (fun y83 => ?_)
  refine V_istore hC [some _, some _, some _, some _, some _, none, none, none, none, none] kL_law_86 rfl (Nat.le_of_ble_eq_true rfl) ?_
  refine V_aload_n hC kL_law_88 rfl ?_
  refine V_cSh 200 1200 hC hX (cp_told hWr hl0 hR hI) mkL_told lxL_76 kL_law_89 rfl rfl (Nat.le_of_ble_eq_true rfl) ⟨(Nat.le_of_ble_eq_true rfl), (Nat.le_of_ble_eq_true rfl)⟩ ⟨rfl, rfl⟩ ⟨(by show _ ≤ 600074; omega), (by show _ ≤ 7301550; omega)⟩ (fun g89 h89 => ?_)
  subst h89
  refine V_lstore hC [some _, some _, some _, some _, some _, some _, none, none, none, none] kL_law_92 rfl (Nat.le_of_ble_eq_true rfl) ?_
  cases ea : F_act g v y83 with
  | none =>
    refine V_aload_n hC kL_law_94 rfl ?_
    refine V_iload_n hC kL_law_95 rfl ?_
    refine V_iload hC kL_law_96 rfl ?_
    refine V_cSh 5 30 hC hX ((by have h := cp_act hWr hl0 v y83 hR hI hm; rw [ea] at h; exact h)) mkL_act lxL_80 kL_law_98 rfl rfl (Nat.le_of_ble_eq_true rfl) ⟨(Nat.le_of_ble_eq_true rfl), (Nat.le_of_ble_eq_true rfl)⟩ ⟨rfl, rfl⟩ ⟨(by show _ ≤ 600074; omega), (by show _ ≤ 7301550; omega)⟩ (fun g98 h98 => ?_)
    subst h98
    refine V_istore hC [some _, some _, some _, some _, some _, some _, none, some _, none, none] kL_law_101 rfl (Nat.le_of_ble_eq_true rfl) ?_
    refine V_aload_n hC kL_law_103 rfl ?_
    refine V_cSh 200 1200 hC hX (cp_told hWr hl0 hR hI) mkL_told lxL_76 kL_law_104 rfl rfl (Nat.le_of_ble_eq_true rfl) ⟨(Nat.le_of_ble_eq_true rfl), (Nat.le_of_ble_eq_true rfl)⟩ ⟨rfl, rfl⟩ ⟨(by show _ ≤ 600074; omega), (by show _ ≤ 7301550; omega)⟩ (fun g104 h104 => ?_)
    subst h104
    refine V_lstore hC [some _, some _, some _, some _, some _, some _, none, some _, some _, none] kL_law_107 rfl (Nat.le_of_ble_eq_true rfl) ?_
    refine V_iload hC kL_law_109 rfl ?_
    refine V_bipush hC (-9) kL_law_111 (by decide) ?_
    refine V_icmp_ne hC 126 kL_law_113 (by decide) (fun h113 => absurd h113 (not_not_intro rfl)) (fun h113 => ?_)
    refine V_lload hC kL_law_116 rfl ?_
    refine V_lload hC kL_law_118 rfl ?_
    refine V_lcmp hC kL_law_120 ?_
    refine V_if_eq hC 126 kL_law_121 (by decide) (fun h121 => ?_) (fun h121 => absurd h121 (not_not_intro (lg_same _)))
    refine V_iload hC kL_law_126 rfl ?_
    refine V_bipush hC (-9) kL_law_128 (by decide) ?_
    refine V_icmp_eq hC 183 kL_law_130 (by decide) (fun h130 => ?_) (fun h130 => absurd h130 (not_not_intro rfl))
    exact V_wd ⟨by omega, by omega⟩ (law_183 hi h hT (hJ.le (by omega)) ih)
  | some q =>
    obtain ⟨ha, hJ2⟩ := act_ok hJ (by omega) v y83 ea
    refine V_aload_n hC kL_law_94 rfl ?_
    refine V_iload_n hC kL_law_95 rfl ?_
    refine V_iload hC kL_law_96 rfl ?_
    refine V_cSh 5 30 hC hX ((by have h := cp_act hWr hl0 v y83 hR hI hm; rw [ea] at h; exact h)) mkL_act lxL_80 kL_law_98 rfl rfl (Nat.le_of_ble_eq_true rfl) ⟨(Nat.le_of_ble_eq_true rfl), (Nat.le_of_ble_eq_true rfl)⟩ ⟨rfl, rfl⟩ ⟨(by show _ ≤ 600074; omega), (by show _ ≤ 7301550; omega)⟩ (fun g98 h98 => ?_)
    have hT2 := hT.pm h98
    obtain ⟨hR2, hm2, -⟩ := id hT2
    refine V_istore hC [some _, some _, some _, some _, some _, some _, none, some _, none, none] kL_law_101 rfl (Nat.le_of_ble_eq_true rfl) ?_
    refine V_aload_n hC kL_law_103 rfl ?_
    refine V_cSh 200 1200 hC hX (cp_told hWr hl0 hR2 hJ2.1) mkL_told lxL_76 kL_law_104 rfl rfl (Nat.le_of_ble_eq_true rfl) ⟨(Nat.le_of_ble_eq_true rfl), (Nat.le_of_ble_eq_true rfl)⟩ ⟨rfl, rfl⟩ ⟨(by show _ ≤ 600074; omega), (by show _ ≤ 7301550; omega)⟩ (fun g104 h104 => ?_)
    subst h104
    refine V_lstore hC [some _, some _, some _, some _, some _, some _, none, some _, some _, none] kL_law_107 rfl (Nat.le_of_ble_eq_true rfl) ?_
    refine V_iload hC kL_law_109 rfl ?_
    refine V_bipush hC (-9) kL_law_111 (by decide) ?_
    refine V_icmp_ne hC 126 kL_law_113 (by decide) (fun h113 => ?_) (fun h113 => absurd h113 ha)
    refine V_iload hC kL_law_126 rfl ?_
    refine V_bipush hC (-9) kL_law_128 (by decide) ?_
    refine V_icmp_eq hC 183 kL_law_130 (by decide) (fun h130 => absurd h130 ha) (fun h130 => ?_)
    refine V_iload_n hC kL_law_133 rfl ?_
    refine V_bipush hC (9) kL_law_134 (by decide) ?_
    refine V_ishr hC kL_law_136 ?_
    refine V_iconst hC (1) kL_law_137 (by decide) ?_
    refine V_iand hC kL_law_138 ?_
    refine V_if_ne hC 183 kL_law_139 (by decide) (fun h139 => ?_) (fun h139 => ?_)
    · exact V_wd ⟨by omega, by omega⟩ (law_183 hi h hT2 (hJ2.le (by omega)) ih)
    · refine V_aload_n hC kL_law_142 rfl ?_
      refine V_cV0 hC hX (cf_undo hWr hl0 hR2 hJ2.1 hm2) (fun _ _ h => h.1) (if_neg (nP_pos N)) mkX5_undo lxL_84 kL_law_143 (Nat.le_of_ble_eq_true rfl) rfl rfl rfl (Nat.le_of_ble_eq_true rfl) ⟨(Nat.le_of_ble_eq_true rfl), (Nat.le_of_ble_eq_true rfl)⟩ ⟨rfl, rfl⟩ ⟨(by show _ ≤ 600074; omega), (by show _ ≤ 7301550; omega)⟩ (fun x143 g143 h143 => ?_)
      have hT3 := hT2.pm h143.2
      rw [gP_top] at hT3
      obtain ⟨hR3, hm3, -⟩ := id hT3
      refine V_if_lt hC 181 kL_law_146 (by decide) (fun h146 => absurd h146 (by rw [h143.1]; exact nI_nn (by have := nP_le hm; omega))) (fun h146 => ?_)
      refine V_aload_n hC kL_law_149 rfl ?_
      refine V_cSh 200 1200 hC hX (cp_told hWr hl0 hR3 hI) mkL_told lxL_76 kL_law_150 rfl rfl (Nat.le_of_ble_eq_true rfl) ⟨(Nat.le_of_ble_eq_true rfl), (Nat.le_of_ble_eq_true rfl)⟩ ⟨rfl, rfl⟩ ⟨(by show _ ≤ 600074; omega), (by show _ ≤ 7301550; omega)⟩ (fun g150 h150 => ?_)
      subst h150
      refine V_lload hC kL_law_153 rfl ?_
      refine V_lcmp hC kL_law_155 ?_
      refine V_if_ne hC 181 kL_law_156 (by decide) (fun h156 => absurd h156 (not_not_intro (lg_same _))) (fun h156 => ?_)
      refine V_aload_n hC kL_law_159 rfl ?_
      refine V_iload_n hC kL_law_160 rfl ?_
      refine V_iload hC kL_law_161 rfl ?_
      refine V_cSh 5 30 hC hX ((by have h := cp_act hWr hl0 v y83 hR3 hI hm3; rw [ea] at h; exact h)) mkL_act lxL_80 kL_law_163 rfl rfl (Nat.le_of_ble_eq_true rfl) ⟨(Nat.le_of_ble_eq_true rfl), (Nat.le_of_ble_eq_true rfl)⟩ ⟨rfl, rfl⟩ ⟨(by show _ ≤ 600074; omega), (by show _ ≤ 7301550; omega)⟩ (fun g163 h163 => ?_)
      have hT4 := hT3.pm h163
      obtain ⟨hR4, hm4, -⟩ := id hT4
      refine V_iload hC kL_law_166 rfl ?_
      refine V_icmp_ne hC 181 kL_law_168 (by decide) (fun h168 => absurd h168 (not_not_intro rfl)) (fun h168 => ?_)
      refine V_aload_n hC kL_law_171 rfl ?_
      refine V_cSh 200 1200 hC hX (cp_told hWr hl0 hR4 hJ2.1) mkL_told lxL_76 kL_law_172 rfl rfl (Nat.le_of_ble_eq_true rfl) ⟨(Nat.le_of_ble_eq_true rfl), (Nat.le_of_ble_eq_true rfl)⟩ ⟨rfl, rfl⟩ ⟨(by show _ ≤ 600074; omega), (by show _ ≤ 7301550; omega)⟩ (fun g172 h172 => ?_)
      subst h172
      refine V_lload hC kL_law_175 rfl ?_
      refine V_lcmp hC kL_law_177 ?_
      refine V_if_eq hC 183 kL_law_178 (by decide) (fun h178 => ?_) (fun h178 => absurd h178 (not_not_intro (lg_same _)))
      exact V_wd ⟨by omega, by omega⟩ (law_183 hi h hT4 (hJ2.le (by omega)) ih)
set_option maxHeartbeats 8000000 in
set_option maxRecDepth 100000 in
theorem law_turn (hi : i < 36) (h : LC l p s m #[Value.ref b] meth c w) (hT : Tm sg g N G K S) (hJ : J (120 * i) g) (ih : ∀ sg' g' N' G', Tm sg' g' N' G' K S → J (120 * (i + 1)) g' → V p l e (mRm mtL_law) s m #[Value.ref b] below meth c mtL_law w (lw_Z below #[Value.ref b] s) (400 + 1013 * (i + 1)) (8000 + 6078 * (i + 1)) 50 (lloc (i + 1)) [] sg') : V p l e (mRm mtL_law) s m #[Value.ref b] below meth c mtL_law w (lw_Z below #[Value.ref b] s) (400 + 1013 * i) (8000 + 6078 * i) 50 (lloc i) [] sg := by
  obtain ⟨hC, hX, hWr, hBs, hl0⟩ := id h
  obtain ⟨hR, hm, hBt, hK0, hS0⟩ := id hT
  have hI := hJ.1
  refine V_iload_n hC kL_law_50 rfl ?_
  refine V_bipush hC (36) kL_law_51 (by decide) ?_
  refine V_icmp_ge hC 198 kL_law_53 (by decide) (fun h53 => absurd h53 (nI_ge' hi (by decide))) (fun h53 => ?_)
  refine V_iload_n hC kL_law_56 rfl ?_
  refine V_iconst hC (5) kL_law_57 (by decide) ?_
  refine V_icmp_ge hC 69 kL_law_58 (by decide) (fun h58 => ?_) (fun h58 => ?_)
  · refine V_aload_n hC kL_law_69 rfl ?_
    refine V_iconst hC (2) kL_law_70 (by decide) ?_
    refine V_iload_n hC kL_law_71 rfl ?_
    refine V_imul hC kL_law_72 ?_
    rw [show (2 : Int32) * nI i = nI (2 * i) by rw [← pk_mul]; rfl]
    refine V_cSy 1 6 hC hX (cp_cell hWr hl0 (n := 2 * i) (by omega)) mkL_cell lxL_72 kL_law_73 rfl rfl (Nat.le_of_ble_eq_true rfl) ⟨(Nat.le_of_ble_eq_true rfl), (Nat.le_of_ble_eq_true rfl)⟩ ⟨rfl, rfl⟩ ⟨(by show _ ≤ 600074; omega), (by show _ ≤ 7301550; omega)⟩ (fun y73 => ?_)
    exact law_76 _ hi h hT hJ ih
  · refine V_iload_n hC kL_law_61 rfl ?_
    refine V_iconst hC (2) kL_law_62 (by decide) ?_
    refine V_irem hC kL_law_63 (by decide) ?_
    refine V_iconst hC (2) kL_law_64 (by decide) ?_
    refine V_imul hC kL_law_65 ?_
    refine V_goto hC 76 kL_law_66 (by decide) ?_
    exact V_wd ⟨by omega, by omega⟩ (law_76 _ hi h hT hJ ih)
set_option maxHeartbeats 8000000 in
set_option maxRecDepth 100000 in
theorem law_end (h : LC l p s m #[Value.ref b] meth c w) (hT : Tm sg g N G K S) (hJ : J (120 * 36) g) : V p l e (mRm mtL_law) s m #[Value.ref b] below meth c mtL_law w (lw_Z below #[Value.ref b] s) (400 + 1013 * 36) (8000 + 6078 * 36) 50 (lloc 36) [] sg := by
  obtain ⟨hC, hX, hWr, hBs, hl0⟩ := id h
  obtain ⟨hR, hm, hBt, hK0, hS0⟩ := id hT
  have hI := hJ.1
  refine V_iload_n hC kL_law_50 rfl ?_
  refine V_bipush hC (36) kL_law_51 (by decide) ?_
  refine V_icmp_ge hC 198 kL_law_53 (by decide) (fun h53 => ?_) (fun h53 => absurd h53 (not_not_intro (Int32.le_refl _)))
  refine V_aload_n hC kL_law_198 rfl ?_
  refine V_ldc2 hC lcL_91 kL_law_199 ?_
  refine V_bipush hC (8) kL_law_202 (by decide) ?_
  refine V_cV0 hC hX (cf_simulate hWr hl0 9 8 hR hI hBt) (fun _ _ h => h.1) ((if_pos (by decide))) mkX5_simulate lxL_93 kL_law_204 (Nat.le_of_ble_eq_true rfl) rfl rfl rfl (Nat.le_of_ble_eq_true rfl) ⟨(Nat.le_of_ble_eq_true rfl), (Nat.le_of_ble_eq_true rfl)⟩ ⟨rfl, rfl⟩ ⟨(by show _ ≤ 600074; omega), (by show _ ≤ 7301550; omega)⟩ (fun x204 g204 h204 => ?_)
  obtain ⟨e204, f204, b204⟩ := h204
  have hR1 := hR.fr hI.cn (fun k h1 h2 => f204 k (Or.inl (by omega)))
  have hm1 := hm.fr (fun k h1 h2 => f204 k (Or.inr (by omega)))
  refine V_aload_n hC kL_law_207 rfl ?_
  refine V_ldc2 hC lcL_91 kL_law_208 ?_
  refine V_bipush hC (8) kL_law_211 (by decide) ?_
  refine V_cV0 hC hX (cf_simulate hWr hl0 9 8 hR1 hI b204) (fun _ _ h => h.1) ((if_pos (by decide))) mkX5_simulate lxL_93 kL_law_213 (Nat.le_of_ble_eq_true rfl) rfl rfl rfl (Nat.le_of_ble_eq_true rfl) ⟨(Nat.le_of_ble_eq_true rfl), (Nat.le_of_ble_eq_true rfl)⟩ ⟨rfl, rfl⟩ ⟨(by show _ ≤ 600074; omega), (by show _ ≤ 7301550; omega)⟩ (fun x213 g213 h213 => ?_)
  obtain ⟨e213, f213, b213⟩ := h213
  have hR2 := hR1.fr hI.cn (fun k h1 h2 => f213 k (Or.inl (by omega)))
  have hm2 := hm1.fr (fun k h1 h2 => f213 k (Or.inr (by omega)))
  refine V_icmp_ne hC 239 kL_law_216 (by decide) (fun h216 => absurd h216 (not_not_intro (e204.trans e213.symm))) (fun h216 => ?_)
  refine V_aload_n hC kL_law_219 rfl ?_
  refine V_iconst hC (0) kL_law_220 (by decide) ?_
  refine V_cV0 hC hX (cf_restore hWr hl0 0 hR2 hI hm2) (fun _ _ h => h.1) ((KR_0 hK0)) mkX5_restore lxL_97 kL_law_221 (Nat.le_of_ble_eq_true rfl) rfl rfl rfl (Nat.le_of_ble_eq_true rfl) ⟨(Nat.le_of_ble_eq_true rfl), (Nat.le_of_ble_eq_true rfl)⟩ ⟨rfl, rfl⟩ ⟨(by show _ ≤ 600074; omega), (by show _ ≤ 7301550; omega)⟩ (fun x221 g221 h221 => ?_)
  obtain ⟨e221, hm3, hR3, -⟩ := h221
  rw [show tn 0 = 0 by decide, hS0] at e221 hR3
  refine V_if_ne hC 239 kL_law_224 (by decide) (fun h224 => absurd h224 (not_not_intro (e221.trans (begins_0 _ (by decide) (by decide))))) (fun h224 => ?_)
  refine V_aload_n hC kL_law_227 rfl ?_
  refine V_iconst hC (0) kL_law_228 (by decide) ?_
  refine V_cVf hC hX (cf_about hWr hl0 0 hR3 (Inv_begins _)) (fun _ _ h => h.1) (Ka_0 (n := 0) (by decide)) mkX5_about lxL_12 kL_law_229 (Nat.le_of_ble_eq_true rfl) rfl rfl rfl (Nat.le_of_ble_eq_true rfl) ⟨(Nat.le_of_ble_eq_true rfl), (Nat.le_of_ble_eq_true rfl)⟩ ⟨rfl, rfl⟩ ⟨(by show _ ≤ 600074; omega), (by show _ ≤ 7301550; omega)⟩ ?_
  refine V_if_ne hC 239 kL_law_232 (by decide) (fun h232 => absurd h232 (not_not_intro ((tells0 _).trans (begins_0 _ (by decide) (by decide))))) (fun h232 => ?_)
  refine V_iconst hC (1) kL_law_235 (by decide) ?_
  refine V_goto hC 240 kL_law_236 (by decide) ?_
  exact V_lawret h kL_law_240 ⟨by omega, by omega⟩
theorem law_loop (h : LC l p s m #[Value.ref b] meth c w) : ∀ (r i : Nat) (sg : Sg) (g : Gs) (N : Nat) (G : Nat → Gs), i + r = 36 → Tm sg g N G K S → J (120 * i) g → V p l e (mRm mtL_law) s m #[Value.ref b] below meth c mtL_law w (lw_Z below #[Value.ref b] s) (400 + 1013 * i) (8000 + 6078 * i) 50 (lloc i) [] sg
  | 0, i, sg, g, N, G, e, hT, hJ => by
    obtain rfl : i = 36 := by omega
    exact law_end h hT hJ
  | r + 1, i, sg, g, N, G, e, hT, hJ => law_turn (by omega) h hT hJ (fun sg' g' N' G' h1 h2 => law_loop h r (i + 1) sg' g' N' G' (by omega) h1 h2)
end LAW
