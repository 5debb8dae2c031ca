/-! the law's cases -/
section CASES
variable {p : Program} {l : Launch} {e : Env} {s : State} {m : MethodId} {args : Array Value} {below : List Frame} {meth : Method} {c : Code} {Q : State → Prop} {w : Wd} {cs sl : Nat} {sg : Sg} {L : Nat} {xs : Nat → Int32}
set_option maxHeartbeats 4000000 in
set_option maxRecDepth 100000 in
theorem cs_light (h : LC l p s m args meth c L xs w) {i n c' B : Nat} (hT : T2 0 331 n c' B sg) (hi : i + 7 ≤ L) (hB : 7260 ≤ B ∧ B ≤ 50000) (hcell : cs + 1 ≤ 601024 ∧ sl + 6 ≤ 7293034) (kk : ∀ w1 g3 n c', LC l p s m args meth c L xs w1 → T2 0 331 n c' (B + 60) g3 → V p l e (mRm mtL_law) s m args below meth c mtL_law w1 Q (cs + 1) (sl + 6) 1906 (lloc (nI i) none none) [] g3) : V p l e (mRm mtL_law) s m args below meth c mtL_law w Q cs sl 682 (lloc (nI i) none none) [] sg := by
  obtain ⟨hC, hX, hWr, hBs, hXs, hbl, hL, hl0⟩ := id h
  refine V_aload_n hC kL_law_682 rfl ?_
  refine V_aload_n hC kL_law_683 rfl ?_
  refine V_iload hC kL_law_684 rfl ?_
  refine V_iconst hC (1) kL_law_686 (by decide) ?_
  refine V_iadd hC kL_law_687 ?_
  refine V_xald h kL_law_688 (sc_in (k := 1) hi hL (by decide)) ?_
  refine V_nameI (fun a1 e1 => ?_)
  refine V_aload_n hC kL_law_689 rfl ?_
  refine V_iload hC kL_law_690 rfl ?_
  refine V_iconst hC (2) kL_law_692 (by decide) ?_
  refine V_iadd hC kL_law_693 ?_
  refine V_xald h kL_law_694 (sc_in (k := 2) hi hL (by decide)) ?_
  refine V_nameI (fun a2 e2 => ?_)
  refine V_aload_n hC kL_law_695 rfl ?_
  refine V_iload hC kL_law_696 rfl ?_
  refine V_iconst hC (3) kL_law_698 (by decide) ?_
  refine V_iadd hC kL_law_699 ?_
  refine V_xald h kL_law_700 (sc_in (k := 3) hi hL (by decide)) ?_
  refine V_nameI (fun a3 e3 => ?_)
  refine V_aload_n hC kL_law_701 rfl ?_
  refine V_iload hC kL_law_702 rfl ?_
  refine V_iconst hC (4) kL_law_704 (by decide) ?_
  refine V_iadd hC kL_law_705 ?_
  refine V_xald h kL_law_706 (sc_in (k := 4) hi hL (by decide)) ?_
  refine V_nameI (fun a4 e4 => ?_)
  refine V_aload_n hC kL_law_707 rfl ?_
  refine V_iload hC kL_law_708 rfl ?_
  refine V_iconst hC (5) kL_law_710 (by decide) ?_
  refine V_iadd hC kL_law_711 ?_
  refine V_xald h kL_law_712 (sc_in (k := 5) hi hL (by decide)) ?_
  refine V_nameI (fun a5 e5 => ?_)
  refine V_aload_n hC kL_law_713 rfl ?_
  refine V_iload hC kL_law_714 rfl ?_
  refine V_bipush hC (6) kL_law_716 (by decide) ?_
  refine V_iadd hC kL_law_718 ?_
  refine V_xald h kL_law_719 (sc_in (k := 6) hi hL (by decide)) ?_
  refine V_nameI (fun a6 e6 => ?_)
  refine V_aload_n hC kL_law_720 rfl ?_
  refine V_callT hC hX (lw_light hWr hl0 a1 a2 a3 a4 a5 a6 (o := 339) (x := 0) hT.rel hT.inv hT.mr) mt_L_light ltL_141 kL_law_721 rfl rfl (Nat.le_of_ble_eq_true rfl) ⟨(Nat.le_of_ble_eq_true rfl), (Nat.le_of_ble_eq_true rfl)⟩ ⟨hcell.1, hcell.2⟩ (fun r w1 g2 hp => PW_post hp) (fun y w1 g2 hp => ?_)
  obtain ⟨k, hk, hw, post, hM, hpost⟩ := pr_push hT (by decide) hWr hp (fun v g hv e1 e0 => by
    have z := ct_light (l := l) (sg := g) (mo := 331) hv a1 a2 a3 a4 a5 a6 hT.c (by rw [e0]; exact hT.m) (by rw [e1]; exact hT.inv)
    rw [e1] at z
    exact z) (fun hK => by
    have hc := (KL_0 hT.inv).mp hK
    exact ⟨(addL_4 hT.inv hc).symm, Inv_addLight hT.inv hc, (hT.2.1.addLight hT.inv hc).le (by omega)⟩)
  obtain rfl : y = k := by cases hk; rfl
  have h1 := h.go hw
  have hC1 := h1.1
  refine V_istore hC1 (lloc (nI i) (some (vI y)) none) kL_law_724 rfl (Nat.le_of_ble_eq_true rfl) ?_
  refine V_aload_n hC1 kL_law_726 rfl ?_
  refine V_aload_n hC1 kL_law_727 rfl ?_
  refine V_iload hC1 kL_law_728 rfl ?_
  refine V_iconst hC1 (1) kL_law_730 (by decide) ?_
  refine V_iadd hC1 kL_law_731 ?_
  refine V_xald h1 kL_law_732 (sc_in (k := 1) hi hL (by decide)) ?_
  rw [← e1]
  refine V_aload_n hC1 kL_law_733 rfl ?_
  refine V_iload hC1 kL_law_734 rfl ?_
  refine V_iconst hC1 (2) kL_law_736 (by decide) ?_
  refine V_iadd hC1 kL_law_737 ?_
  refine V_xald h1 kL_law_738 (sc_in (k := 2) hi hL (by decide)) ?_
  rw [← e2]
  refine V_aload_n hC1 kL_law_739 rfl ?_
  refine V_iload hC1 kL_law_740 rfl ?_
  refine V_iconst hC1 (3) kL_law_742 (by decide) ?_
  refine V_iadd hC1 kL_law_743 ?_
  refine V_xald h1 kL_law_744 (sc_in (k := 3) hi hL (by decide)) ?_
  rw [← e3]
  refine V_aload_n hC1 kL_law_745 rfl ?_
  refine V_iload hC1 kL_law_746 rfl ?_
  refine V_iconst hC1 (4) kL_law_748 (by decide) ?_
  refine V_iadd hC1 kL_law_749 ?_
  refine V_xald h1 kL_law_750 (sc_in (k := 4) hi hL (by decide)) ?_
  rw [← e4]
  refine V_aload_n hC1 kL_law_751 rfl ?_
  refine V_iload hC1 kL_law_752 rfl ?_
  refine V_iconst hC1 (5) kL_law_754 (by decide) ?_
  refine V_iadd hC1 kL_law_755 ?_
  refine V_xald h1 kL_law_756 (sc_in (k := 5) hi hL (by decide)) ?_
  rw [← e5]
  refine V_aload_n hC1 kL_law_757 rfl ?_
  refine V_iload hC1 kL_law_758 rfl ?_
  refine V_bipush hC1 (6) kL_law_760 (by decide) ?_
  refine V_iadd hC1 kL_law_762 ?_
  refine V_xald h1 kL_law_763 (sc_in (k := 6) hi hL (by decide)) ?_
  rw [← e6]
  refine V_cM hC1 hM mkX6_light lmL_144 kL_law_764 rfl rfl rfl (Nat.le_of_ble_eq_true rfl) ⟨(Nat.le_of_ble_eq_true rfl), (Nat.le_of_ble_eq_true rfl)⟩ ⟨rfl, rfl⟩ ⟨hcell.1, hcell.2⟩ hpost (fun b g3 hD => ?_)
  exact V_tail h1 ⟨hcell.1, hcell.2⟩ hD kL_law_767 kL_law_769 kL_law_770 kL_law_773 kL_law_775 kL_law_780 kL_law_782 kL_law_785 kL_law_786 kL_law_787 kL_law_788 kL_law_790 kL_law_791 kL_law_792 kL_law_797 (by decide) (fun n3 c3 hT3 => kk _ _ _ _ h1 hT3)
set_option maxHeartbeats 4000000 in
set_option maxRecDepth 100000 in
theorem cs_boat (h : LC l p s m args meth c L xs w) {i n c' B : Nat} (hT : T2 0 331 n c' B sg) (hi : i + 7 ≤ L) (hB : 7260 ≤ B ∧ B ≤ 50000) (hcell : cs + 1 ≤ 601024 ∧ sl + 6 ≤ 7293034) (kk : ∀ w1 g3 n c', LC l p s m args meth c L xs w1 → T2 0 331 n c' (B + 60) g3 → V p l e (mRm mtL_law) s m args below meth c mtL_law w1 Q (cs + 1) (sl + 6) 1906 (lloc (nI i) none none) [] g3) : V p l e (mRm mtL_law) s m args below meth c mtL_law w Q cs sl 800 (lloc (nI i) none none) [] sg := by
  obtain ⟨hC, hX, hWr, hBs, hXs, hbl, hL, hl0⟩ := id h
  refine V_aload_n hC kL_law_800 rfl ?_
  refine V_aload_n hC kL_law_801 rfl ?_
  refine V_iload hC kL_law_802 rfl ?_
  refine V_iconst hC (1) kL_law_804 (by decide) ?_
  refine V_iadd hC kL_law_805 ?_
  refine V_xald h kL_law_806 (sc_in (k := 1) hi hL (by decide)) ?_
  refine V_nameI (fun a1 e1 => ?_)
  refine V_aload_n hC kL_law_807 rfl ?_
  refine V_iload hC kL_law_808 rfl ?_
  refine V_iconst hC (2) kL_law_810 (by decide) ?_
  refine V_iadd hC kL_law_811 ?_
  refine V_xald h kL_law_812 (sc_in (k := 2) hi hL (by decide)) ?_
  refine V_nameI (fun a2 e2 => ?_)
  refine V_aload_n hC kL_law_813 rfl ?_
  refine V_callT hC hX (lw_boat hWr hl0 a1 a2 (o := 339) (x := 0) hT.rel hT.inv hT.mr) mt_L_boat ltL_145 kL_law_814 rfl rfl (Nat.le_of_ble_eq_true rfl) ⟨(Nat.le_of_ble_eq_true rfl), (Nat.le_of_ble_eq_true rfl)⟩ ⟨hcell.1, hcell.2⟩ (fun r w1 g2 hp => PW_post hp) (fun y w1 g2 hp => ?_)
  obtain ⟨k, hk, hw, post, hM, hpost⟩ := pr_push hT (by decide) hWr hp (fun v g hv e1 e0 => by
    have z := ct_boat (l := l) (sg := g) (mo := 331) hv a1 a2 hT.c (by rw [e0]; exact hT.m) (by rw [e1]; exact hT.inv)
    rw [e1] at z
    exact z) (fun hK => by
    have hc := (KB_0 hT.inv).mp hK
    exact ⟨rfl, Inv_addBoat hT.inv hc, (hT.2.1.addBoat hT.inv hc).le (by omega)⟩)
  obtain rfl : y = k := by cases hk; rfl
  have h1 := h.go hw
  have hC1 := h1.1
  refine V_istore hC1 (lloc (nI i) (some (vI y)) none) kL_law_817 rfl (Nat.le_of_ble_eq_true rfl) ?_
  refine V_aload_n hC1 kL_law_819 rfl ?_
  refine V_aload_n hC1 kL_law_820 rfl ?_
  refine V_iload hC1 kL_law_821 rfl ?_
  refine V_iconst hC1 (1) kL_law_823 (by decide) ?_
  refine V_iadd hC1 kL_law_824 ?_
  refine V_xald h1 kL_law_825 (sc_in (k := 1) hi hL (by decide)) ?_
  rw [← e1]
  refine V_aload_n hC1 kL_law_826 rfl ?_
  refine V_iload hC1 kL_law_827 rfl ?_
  refine V_iconst hC1 (2) kL_law_829 (by decide) ?_
  refine V_iadd hC1 kL_law_830 ?_
  refine V_xald h1 kL_law_831 (sc_in (k := 2) hi hL (by decide)) ?_
  rw [← e2]
  refine V_cM hC1 hM mkX6_boat lmL_147 kL_law_832 rfl rfl rfl (Nat.le_of_ble_eq_true rfl) ⟨(Nat.le_of_ble_eq_true rfl), (Nat.le_of_ble_eq_true rfl)⟩ ⟨rfl, rfl⟩ ⟨hcell.1, hcell.2⟩ hpost (fun b g3 hD => ?_)
  exact V_tail h1 ⟨hcell.1, hcell.2⟩ hD kL_law_835 kL_law_837 kL_law_838 kL_law_841 kL_law_843 kL_law_848 kL_law_850 kL_law_853 kL_law_854 kL_law_855 kL_law_856 kL_law_858 kL_law_859 kL_law_860 kL_law_865 (by decide) (fun n3 c3 hT3 => kk _ _ _ _ h1 hT3)
set_option maxHeartbeats 4000000 in
set_option maxRecDepth 100000 in
theorem cs_steer (h : LC l p s m args meth c L xs w) {i n c' B : Nat} (hT : T2 0 331 n c' B sg) (hi : i + 7 ≤ L) (hB : 7260 ≤ B ∧ B ≤ 50000) (hcell : cs + 1 ≤ 601024 ∧ sl + 6 ≤ 7293034) (kk : ∀ w1 g3 n c', LC l p s m args meth c L xs w1 → T2 0 331 n c' (B + 60) g3 → V p l e (mRm mtL_law) s m args below meth c mtL_law w1 Q (cs + 1) (sl + 6) 1906 (lloc (nI i) none none) [] g3) : V p l e (mRm mtL_law) s m args below meth c mtL_law w Q cs sl 868 (lloc (nI i) none none) [] sg := by
  obtain ⟨hC, hX, hWr, hBs, hXs, hbl, hL, hl0⟩ := id h
  refine V_aload_n hC kL_law_868 rfl ?_
  refine V_aload_n hC kL_law_869 rfl ?_
  refine V_iload hC kL_law_870 rfl ?_
  refine V_iconst hC (1) kL_law_872 (by decide) ?_
  refine V_iadd hC kL_law_873 ?_
  refine V_xald h kL_law_874 (sc_in (k := 1) hi hL (by decide)) ?_
  refine V_nameI (fun a1 e1 => ?_)
  refine V_aload_n hC kL_law_875 rfl ?_
  refine V_iload hC kL_law_876 rfl ?_
  refine V_iconst hC (2) kL_law_878 (by decide) ?_
  refine V_iadd hC kL_law_879 ?_
  refine V_xald h kL_law_880 (sc_in (k := 2) hi hL (by decide)) ?_
  refine V_nameI (fun a2 e2 => ?_)
  refine V_aload_n hC kL_law_881 rfl ?_
  refine V_callT hC hX (lw_steer hWr hl0 a1 a2 (o := 339) (x := 0) hT.rel hT.inv hT.mr) mt_L_steer ltL_148 kL_law_882 rfl rfl (Nat.le_of_ble_eq_true rfl) ⟨(Nat.le_of_ble_eq_true rfl), (Nat.le_of_ble_eq_true rfl)⟩ ⟨hcell.1, hcell.2⟩ (fun r w1 g2 hp => PW_post hp) (fun y w1 g2 hp => ?_)
  obtain ⟨k, hk, hw, post, hM, hpost⟩ := pr_push hT (by decide) hWr hp (fun v g hv e1 e0 => by
    have z := ct_steer (l := l) (sg := g) (mo := 331) hv a1 a2 hT.c (by rw [e0]; exact hT.m) (by rw [e1]; exact hT.inv)
    rw [e1] at z
    exact z) (fun hK => by
    have hc := KS_0.mp hK
    exact ⟨rfl, Inv_steer hT.inv hc, (hT.2.1.steer hT.inv hc).le (by omega)⟩)
  obtain rfl : y = k := by cases hk; rfl
  have h1 := h.go hw
  have hC1 := h1.1
  refine V_istore hC1 (lloc (nI i) (some (vI y)) none) kL_law_885 rfl (Nat.le_of_ble_eq_true rfl) ?_
  refine V_aload_n hC1 kL_law_887 rfl ?_
  refine V_aload_n hC1 kL_law_888 rfl ?_
  refine V_iload hC1 kL_law_889 rfl ?_
  refine V_iconst hC1 (1) kL_law_891 (by decide) ?_
  refine V_iadd hC1 kL_law_892 ?_
  refine V_xald h1 kL_law_893 (sc_in (k := 1) hi hL (by decide)) ?_
  rw [← e1]
  refine V_aload_n hC1 kL_law_894 rfl ?_
  refine V_iload hC1 kL_law_895 rfl ?_
  refine V_iconst hC1 (2) kL_law_897 (by decide) ?_
  refine V_iadd hC1 kL_law_898 ?_
  refine V_xald h1 kL_law_899 (sc_in (k := 2) hi hL (by decide)) ?_
  rw [← e2]
  refine V_cM hC1 hM mkX6_steer lmL_150 kL_law_900 rfl rfl rfl (Nat.le_of_ble_eq_true rfl) ⟨(Nat.le_of_ble_eq_true rfl), (Nat.le_of_ble_eq_true rfl)⟩ ⟨rfl, rfl⟩ ⟨hcell.1, hcell.2⟩ hpost (fun b g3 hD => ?_)
  exact V_tail h1 ⟨hcell.1, hcell.2⟩ hD kL_law_903 kL_law_905 kL_law_906 kL_law_909 kL_law_911 kL_law_916 kL_law_918 kL_law_921 kL_law_922 kL_law_923 kL_law_924 kL_law_926 kL_law_927 kL_law_928 kL_law_933 (by decide) (fun n3 c3 hT3 => kk _ _ _ _ h1 hT3)
set_option maxHeartbeats 4000000 in
set_option maxRecDepth 100000 in
theorem cs_talk (h : LC l p s m args meth c L xs w) {i n c' B : Nat} (hT : T2 0 331 n c' B sg) (hi : i + 7 ≤ L) (hB : 7260 ≤ B ∧ B ≤ 50000) (hcell : cs + 1 ≤ 601024 ∧ sl + 6 ≤ 7293034) (kk : ∀ w1 g3 n c', LC l p s m args meth c L xs w1 → T2 0 331 n c' (B + 60) g3 → V p l e (mRm mtL_law) s m args below meth c mtL_law w1 Q (cs + 1) (sl + 6) 1906 (lloc (nI i) none none) [] g3) : V p l e (mRm mtL_law) s m args below meth c mtL_law w Q cs sl 936 (lloc (nI i) none none) [] sg := by
  obtain ⟨hC, hX, hWr, hBs, hXs, hbl, hL, hl0⟩ := id h
  refine V_aload_n hC kL_law_936 rfl ?_
  refine V_aload_n hC kL_law_937 rfl ?_
  refine V_iload hC kL_law_938 rfl ?_
  refine V_iconst hC (1) kL_law_940 (by decide) ?_
  refine V_iadd hC kL_law_941 ?_
  refine V_xald h kL_law_942 (sc_in (k := 1) hi hL (by decide)) ?_
  refine V_nameI (fun a1 e1 => ?_)
  refine V_aload_n hC kL_law_943 rfl ?_
  refine V_iload hC kL_law_944 rfl ?_
  refine V_iconst hC (2) kL_law_946 (by decide) ?_
  refine V_iadd hC kL_law_947 ?_
  refine V_xald h kL_law_948 (sc_in (k := 2) hi hL (by decide)) ?_
  refine V_nameI (fun a2 e2 => ?_)
  refine V_aload_n hC kL_law_949 rfl ?_
  refine V_callT hC hX (lw_talk hWr hl0 a1 a2 (o := 339) (x := 0) hT.rel hT.inv hT.mr) mt_L_talk ltL_151 kL_law_950 rfl rfl (Nat.le_of_ble_eq_true rfl) ⟨(Nat.le_of_ble_eq_true rfl), (Nat.le_of_ble_eq_true rfl)⟩ ⟨hcell.1, hcell.2⟩ (fun r w1 g2 hp => PW_post hp) (fun y w1 g2 hp => ?_)
  obtain ⟨k, hk, hw, post, hM, hpost⟩ := pr_push hT (by decide) hWr hp (fun v g hv e1 e0 => by
    have z := ct_talk (l := l) (sg := g) (mo := 331) hv a1 a2 hT.c (by rw [e0]; exact hT.m) (by rw [e1]; exact hT.inv)
    rw [e1] at z
    exact z) (fun hK => by
    have hc := KT_0.mp hK
    exact ⟨rfl, Inv_talk hT.inv hc, (hT.2.1.talk hT.inv hc).le (by omega)⟩)
  obtain rfl : y = k := by cases hk; rfl
  have h1 := h.go hw
  have hC1 := h1.1
  refine V_istore hC1 (lloc (nI i) (some (vI y)) none) kL_law_953 rfl (Nat.le_of_ble_eq_true rfl) ?_
  refine V_aload_n hC1 kL_law_955 rfl ?_
  refine V_aload_n hC1 kL_law_956 rfl ?_
  refine V_iload hC1 kL_law_957 rfl ?_
  refine V_iconst hC1 (1) kL_law_959 (by decide) ?_
  refine V_iadd hC1 kL_law_960 ?_
  refine V_xald h1 kL_law_961 (sc_in (k := 1) hi hL (by decide)) ?_
  rw [← e1]
  refine V_aload_n hC1 kL_law_962 rfl ?_
  refine V_iload hC1 kL_law_963 rfl ?_
  refine V_iconst hC1 (2) kL_law_965 (by decide) ?_
  refine V_iadd hC1 kL_law_966 ?_
  refine V_xald h1 kL_law_967 (sc_in (k := 2) hi hL (by decide)) ?_
  rw [← e2]
  refine V_cM hC1 hM mkX6_talk lmL_153 kL_law_968 rfl rfl rfl (Nat.le_of_ble_eq_true rfl) ⟨(Nat.le_of_ble_eq_true rfl), (Nat.le_of_ble_eq_true rfl)⟩ ⟨rfl, rfl⟩ ⟨hcell.1, hcell.2⟩ hpost (fun b g3 hD => ?_)
  exact V_tail h1 ⟨hcell.1, hcell.2⟩ hD kL_law_971 kL_law_973 kL_law_974 kL_law_977 kL_law_979 kL_law_984 kL_law_986 kL_law_989 kL_law_990 kL_law_991 kL_law_992 kL_law_994 kL_law_995 kL_law_996 kL_law_1001 (by decide) (fun n3 c3 hT3 => kk _ _ _ _ h1 hT3)
set_option maxHeartbeats 4000000 in
set_option maxRecDepth 100000 in
theorem cs_lean (h : LC l p s m args meth c L xs w) {i n c' B : Nat} (hT : T2 0 331 n c' B sg) (hi : i + 7 ≤ L) (hB : 7260 ≤ B ∧ B ≤ 50000) (hcell : cs + 1 ≤ 601024 ∧ sl + 6 ≤ 7293034) (kk : ∀ w1 g3 n c', LC l p s m args meth c L xs w1 → T2 0 331 n c' (B + 60) g3 → V p l e (mRm mtL_law) s m args below meth c mtL_law w1 Q (cs + 1) (sl + 6) 1906 (lloc (nI i) none none) [] g3) : V p l e (mRm mtL_law) s m args below meth c mtL_law w Q cs sl 1004 (lloc (nI i) none none) [] sg := by
  obtain ⟨hC, hX, hWr, hBs, hXs, hbl, hL, hl0⟩ := id h
  refine V_aload_n hC kL_law_1004 rfl ?_
  refine V_aload_n hC kL_law_1005 rfl ?_
  refine V_iload hC kL_law_1006 rfl ?_
  refine V_iconst hC (1) kL_law_1008 (by decide) ?_
  refine V_iadd hC kL_law_1009 ?_
  refine V_xald h kL_law_1010 (sc_in (k := 1) hi hL (by decide)) ?_
  refine V_nameI (fun a1 e1 => ?_)
  refine V_aload_n hC kL_law_1011 rfl ?_
  refine V_iload hC kL_law_1012 rfl ?_
  refine V_iconst hC (2) kL_law_1014 (by decide) ?_
  refine V_iadd hC kL_law_1015 ?_
  refine V_xald h kL_law_1016 (sc_in (k := 2) hi hL (by decide)) ?_
  refine V_nameI (fun a2 e2 => ?_)
  refine V_aload_n hC kL_law_1017 rfl ?_
  refine V_callT hC hX (lw_lean hWr hl0 a1 a2 (o := 339) (x := 0) hT.rel hT.inv hT.mr) mt_L_lean ltL_154 kL_law_1018 rfl rfl (Nat.le_of_ble_eq_true rfl) ⟨(Nat.le_of_ble_eq_true rfl), (Nat.le_of_ble_eq_true rfl)⟩ ⟨hcell.1, hcell.2⟩ (fun r w1 g2 hp => PW_post hp) (fun y w1 g2 hp => ?_)
  obtain ⟨k, hk, hw, post, hM, hpost⟩ := pr_push hT (by decide) hWr hp (fun v g hv e1 e0 => by
    have z := ct_lean (l := l) (sg := g) (mo := 331) hv a1 a2 hT.c (by rw [e0]; exact hT.m) (by rw [e1]; exact hT.inv)
    rw [e1] at z
    exact z) (fun hK => by
    have hc := KE_0.mp hK
    exact ⟨rfl, Inv_lean hT.inv hc, (hT.2.1.lean hT.inv hc).le (by omega)⟩)
  obtain rfl : y = k := by cases hk; rfl
  have h1 := h.go hw
  have hC1 := h1.1
  refine V_istore hC1 (lloc (nI i) (some (vI y)) none) kL_law_1021 rfl (Nat.le_of_ble_eq_true rfl) ?_
  refine V_aload_n hC1 kL_law_1023 rfl ?_
  refine V_aload_n hC1 kL_law_1024 rfl ?_
  refine V_iload hC1 kL_law_1025 rfl ?_
  refine V_iconst hC1 (1) kL_law_1027 (by decide) ?_
  refine V_iadd hC1 kL_law_1028 ?_
  refine V_xald h1 kL_law_1029 (sc_in (k := 1) hi hL (by decide)) ?_
  rw [← e1]
  refine V_aload_n hC1 kL_law_1030 rfl ?_
  refine V_iload hC1 kL_law_1031 rfl ?_
  refine V_iconst hC1 (2) kL_law_1033 (by decide) ?_
  refine V_iadd hC1 kL_law_1034 ?_
  refine V_xald h1 kL_law_1035 (sc_in (k := 2) hi hL (by decide)) ?_
  rw [← e2]
  refine V_cM hC1 hM mkX6_lean lmL_156 kL_law_1036 rfl rfl rfl (Nat.le_of_ble_eq_true rfl) ⟨(Nat.le_of_ble_eq_true rfl), (Nat.le_of_ble_eq_true rfl)⟩ ⟨rfl, rfl⟩ ⟨hcell.1, hcell.2⟩ hpost (fun b g3 hD => ?_)
  exact V_tail h1 ⟨hcell.1, hcell.2⟩ hD kL_law_1039 kL_law_1041 kL_law_1042 kL_law_1045 kL_law_1047 kL_law_1052 kL_law_1054 kL_law_1057 kL_law_1058 kL_law_1059 kL_law_1060 kL_law_1062 kL_law_1063 kL_law_1064 kL_law_1069 (by decide) (fun n3 c3 hT3 => kk _ _ _ _ h1 hT3)
set_option maxHeartbeats 4000000 in
set_option maxRecDepth 100000 in
theorem cs_dim (h : LC l p s m args meth c L xs w) {i n c' B : Nat} (hT : T2 0 331 n c' B sg) (hi : i + 7 ≤ L) (hB : 7260 ≤ B ∧ B ≤ 50000) (hcell : cs + 1 ≤ 601024 ∧ sl + 6 ≤ 7293034) (kk : ∀ w1 g3 n c', LC l p s m args meth c L xs w1 → T2 0 331 n c' (B + 60) g3 → V p l e (mRm mtL_law) s m args below meth c mtL_law w1 Q (cs + 1) (sl + 6) 1906 (lloc (nI i) none none) [] g3) : V p l e (mRm mtL_law) s m args below meth c mtL_law w Q cs sl 1072 (lloc (nI i) none none) [] sg := by
  obtain ⟨hC, hX, hWr, hBs, hXs, hbl, hL, hl0⟩ := id h
  refine V_aload_n hC kL_law_1072 rfl ?_
  refine V_aload_n hC kL_law_1073 rfl ?_
  refine V_iload hC kL_law_1074 rfl ?_
  refine V_iconst hC (1) kL_law_1076 (by decide) ?_
  refine V_iadd hC kL_law_1077 ?_
  refine V_xald h kL_law_1078 (sc_in (k := 1) hi hL (by decide)) ?_
  refine V_nameI (fun a1 e1 => ?_)
  refine V_aload_n hC kL_law_1079 rfl ?_
  refine V_iload hC kL_law_1080 rfl ?_
  refine V_iconst hC (2) kL_law_1082 (by decide) ?_
  refine V_iadd hC kL_law_1083 ?_
  refine V_xald h kL_law_1084 (sc_in (k := 2) hi hL (by decide)) ?_
  refine V_nameI (fun a2 e2 => ?_)
  refine V_aload_n hC kL_law_1085 rfl ?_
  refine V_callT hC hX (lw_dim hWr hl0 a1 a2 (o := 339) (x := 0) hT.rel hT.inv hT.mr) mt_L_dim ltL_157 kL_law_1086 rfl rfl (Nat.le_of_ble_eq_true rfl) ⟨(Nat.le_of_ble_eq_true rfl), (Nat.le_of_ble_eq_true rfl)⟩ ⟨hcell.1, hcell.2⟩ (fun r w1 g2 hp => PW_post hp) (fun y w1 g2 hp => ?_)
  obtain ⟨k, hk, hw, post, hM, hpost⟩ := pr_push hT (by decide) hWr hp (fun v g hv e1 e0 => by
    have z := ct_dim (l := l) (sg := g) (mo := 331) hv a1 a2 hT.c (by rw [e0]; exact hT.m) (by rw [e1]; exact hT.inv)
    rw [e1] at z
    exact z) (fun hK => by
    have hc := KD_0.mp hK
    exact ⟨rfl, Inv_dim hT.inv hc, (hT.2.1.dim hT.inv hc).le (by omega)⟩)
  obtain rfl : y = k := by cases hk; rfl
  have h1 := h.go hw
  have hC1 := h1.1
  refine V_istore hC1 (lloc (nI i) (some (vI y)) none) kL_law_1089 rfl (Nat.le_of_ble_eq_true rfl) ?_
  refine V_aload_n hC1 kL_law_1091 rfl ?_
  refine V_aload_n hC1 kL_law_1092 rfl ?_
  refine V_iload hC1 kL_law_1093 rfl ?_
  refine V_iconst hC1 (1) kL_law_1095 (by decide) ?_
  refine V_iadd hC1 kL_law_1096 ?_
  refine V_xald h1 kL_law_1097 (sc_in (k := 1) hi hL (by decide)) ?_
  rw [← e1]
  refine V_aload_n hC1 kL_law_1098 rfl ?_
  refine V_iload hC1 kL_law_1099 rfl ?_
  refine V_iconst hC1 (2) kL_law_1101 (by decide) ?_
  refine V_iadd hC1 kL_law_1102 ?_
  refine V_xald h1 kL_law_1103 (sc_in (k := 2) hi hL (by decide)) ?_
  rw [← e2]
  refine V_cM hC1 hM mkX6_dim lmL_159 kL_law_1104 rfl rfl rfl (Nat.le_of_ble_eq_true rfl) ⟨(Nat.le_of_ble_eq_true rfl), (Nat.le_of_ble_eq_true rfl)⟩ ⟨rfl, rfl⟩ ⟨hcell.1, hcell.2⟩ hpost (fun b g3 hD => ?_)
  exact V_tail h1 ⟨hcell.1, hcell.2⟩ hD kL_law_1107 kL_law_1109 kL_law_1110 kL_law_1113 kL_law_1115 kL_law_1120 kL_law_1122 kL_law_1125 kL_law_1126 kL_law_1127 kL_law_1128 kL_law_1130 kL_law_1131 kL_law_1132 kL_law_1137 (by decide) (fun n3 c3 hT3 => kk _ _ _ _ h1 hT3)
set_option maxHeartbeats 4000000 in
set_option maxRecDepth 100000 in
theorem cs_set (h : LC l p s m args meth c L xs w) {i n c' B : Nat} (hT : T2 0 331 n c' B sg) (hi : i + 7 ≤ L) (hB : 7260 ≤ B ∧ B ≤ 50000) (hcell : cs + 1 ≤ 601024 ∧ sl + 6 ≤ 7293034) (kk : ∀ w1 g3 n c', LC l p s m args meth c L xs w1 → T2 0 331 n c' (B + 60) g3 → V p l e (mRm mtL_law) s m args below meth c mtL_law w1 Q (cs + 1) (sl + 6) 1906 (lloc (nI i) none none) [] g3) : V p l e (mRm mtL_law) s m args below meth c mtL_law w Q cs sl 1140 (lloc (nI i) none none) [] sg := by
  obtain ⟨hC, hX, hWr, hBs, hXs, hbl, hL, hl0⟩ := id h
  refine V_aload_n hC kL_law_1140 rfl ?_
  refine V_aload_n hC kL_law_1141 rfl ?_
  refine V_iload hC kL_law_1142 rfl ?_
  refine V_iconst hC (1) kL_law_1144 (by decide) ?_
  refine V_iadd hC kL_law_1145 ?_
  refine V_xald h kL_law_1146 (sc_in (k := 1) hi hL (by decide)) ?_
  refine V_nameI (fun a1 e1 => ?_)
  refine V_aload_n hC kL_law_1147 rfl ?_
  refine V_iload hC kL_law_1148 rfl ?_
  refine V_iconst hC (2) kL_law_1150 (by decide) ?_
  refine V_iadd hC kL_law_1151 ?_
  refine V_xald h kL_law_1152 (sc_in (k := 2) hi hL (by decide)) ?_
  refine V_nameI (fun a2 e2 => ?_)
  refine V_aload_n hC kL_law_1153 rfl ?_
  refine V_callT hC hX (lw_set hWr hl0 a1 a2 (o := 339) (x := 0) hT.rel hT.inv hT.mr) mt_L_set ltL_160 kL_law_1154 rfl rfl (Nat.le_of_ble_eq_true rfl) ⟨(Nat.le_of_ble_eq_true rfl), (Nat.le_of_ble_eq_true rfl)⟩ ⟨hcell.1, hcell.2⟩ (fun r w1 g2 hp => PW_post hp) (fun y w1 g2 hp => ?_)
  obtain ⟨k, hk, hw, post, hM, hpost⟩ := pr_push hT (by decide) hWr hp (fun v g hv e1 e0 => by
    have z := ct_set (l := l) (sg := g) (mo := 331) hv a1 a2 hT.c (by rw [e0]; exact hT.m)
    rw [e1] at z
    exact z) (fun hK => by
    have hc := kset_0 hK
    exact ⟨rfl, Inv_set hT.inv hc, (hT.2.1.set hc).le (by omega)⟩)
  obtain rfl : y = k := by cases hk; rfl
  have h1 := h.go hw
  have hC1 := h1.1
  refine V_istore hC1 (lloc (nI i) (some (vI y)) none) kL_law_1157 rfl (Nat.le_of_ble_eq_true rfl) ?_
  refine V_aload_n hC1 kL_law_1159 rfl ?_
  refine V_aload_n hC1 kL_law_1160 rfl ?_
  refine V_iload hC1 kL_law_1161 rfl ?_
  refine V_iconst hC1 (1) kL_law_1163 (by decide) ?_
  refine V_iadd hC1 kL_law_1164 ?_
  refine V_xald h1 kL_law_1165 (sc_in (k := 1) hi hL (by decide)) ?_
  rw [← e1]
  refine V_aload_n hC1 kL_law_1166 rfl ?_
  refine V_iload hC1 kL_law_1167 rfl ?_
  refine V_iconst hC1 (2) kL_law_1169 (by decide) ?_
  refine V_iadd hC1 kL_law_1170 ?_
  refine V_xald h1 kL_law_1171 (sc_in (k := 2) hi hL (by decide)) ?_
  rw [← e2]
  refine V_cM hC1 hM mkX6_set lmL_162 kL_law_1172 rfl rfl rfl (Nat.le_of_ble_eq_true rfl) ⟨(Nat.le_of_ble_eq_true rfl), (Nat.le_of_ble_eq_true rfl)⟩ ⟨rfl, rfl⟩ ⟨hcell.1, hcell.2⟩ hpost (fun b g3 hD => ?_)
  exact V_tail h1 ⟨hcell.1, hcell.2⟩ hD kL_law_1175 kL_law_1177 kL_law_1178 kL_law_1181 kL_law_1183 kL_law_1188 kL_law_1190 kL_law_1193 kL_law_1194 kL_law_1195 kL_law_1196 kL_law_1198 kL_law_1199 kL_law_1200 kL_law_1205 (by decide) (fun n3 c3 hT3 => kk _ _ _ _ h1 hT3)
set_option maxHeartbeats 4000000 in
set_option maxRecDepth 100000 in
theorem cs_ticks (h : LC l p s m args meth c L xs w) {i n c' B : Nat} (hT : T2 0 331 n c' B sg) (hi : i + 7 ≤ L) (hB : 7260 ≤ B ∧ B ≤ 50000) (hcell : cs + 1 ≤ 601024 ∧ sl + 6 ≤ 7293034) (kk : ∀ w1 g3 n c', LC l p s m args meth c L xs w1 → T2 0 331 n c' (B + 60) g3 → V p l e (mRm mtL_law) s m args below meth c mtL_law w1 Q (cs + 1) (sl + 6) 1906 (lloc (nI i) none none) [] g3) : V p l e (mRm mtL_law) s m args below meth c mtL_law w Q cs sl 1208 (lloc (nI i) none none) [] sg := by
  obtain ⟨hC, hX, hWr, hBs, hXs, hbl, hL, hl0⟩ := id h
  refine V_aload_n hC kL_law_1208 rfl ?_
  refine V_aload_n hC kL_law_1209 rfl ?_
  refine V_iload hC kL_law_1210 rfl ?_
  refine V_iconst hC (1) kL_law_1212 (by decide) ?_
  refine V_iadd hC kL_law_1213 ?_
  refine V_xald h kL_law_1214 (sc_in (k := 1) hi hL (by decide)) ?_
  refine V_nameI (fun a1 e1 => ?_)
  refine V_aload_n hC kL_law_1215 rfl ?_
  refine V_callT hC hX (lw_ticks hWr hl0 a1 (o := 339) (x := 0) hT.rel hT.inv hT.mr) mt_L_ticks ltL_163 kL_law_1216 rfl rfl (Nat.le_of_ble_eq_true rfl) ⟨(Nat.le_of_ble_eq_true rfl), (Nat.le_of_ble_eq_true rfl)⟩ ⟨hcell.1, hcell.2⟩ (fun r w1 g2 hp => PW_post hp) (fun y w1 g2 hp => ?_)
  obtain ⟨k, hk, hw, post, hM, hpost⟩ := pr_push hT (by decide) hWr hp (fun v g hv e1 e0 => by
    have z := ct_ticks (l := l) (sg := g) (mo := 331) hv a1 hT.c (by rw [e0]; exact hT.m) (by rw [e1]; exact hT.inv)
    rw [e1] at z
    exact z) (fun hK => by
    have hc := inn60 (kticks_0 hK)
    exact ⟨rfl, (Inv_ticks hT.inv _).1, (hT.2.1.ticks hT.inv _).le (by omega)⟩)
  obtain rfl : y = k := by cases hk; rfl
  have h1 := h.go hw
  have hC1 := h1.1
  refine V_istore hC1 (lloc (nI i) (some (vI y)) none) kL_law_1219 rfl (Nat.le_of_ble_eq_true rfl) ?_
  refine V_aload_n hC1 kL_law_1221 rfl ?_
  refine V_aload_n hC1 kL_law_1222 rfl ?_
  refine V_iload hC1 kL_law_1223 rfl ?_
  refine V_iconst hC1 (1) kL_law_1225 (by decide) ?_
  refine V_iadd hC1 kL_law_1226 ?_
  refine V_xald h1 kL_law_1227 (sc_in (k := 1) hi hL (by decide)) ?_
  rw [← e1]
  refine V_cM hC1 hM mkX6_ticks lmL_165 kL_law_1228 rfl rfl rfl (Nat.le_of_ble_eq_true rfl) ⟨(Nat.le_of_ble_eq_true rfl), (Nat.le_of_ble_eq_true rfl)⟩ ⟨rfl, rfl⟩ ⟨hcell.1, hcell.2⟩ hpost (fun b g3 hD => ?_)
  exact V_tail h1 ⟨hcell.1, hcell.2⟩ hD kL_law_1231 kL_law_1233 kL_law_1234 kL_law_1237 kL_law_1239 kL_law_1244 kL_law_1246 kL_law_1249 kL_law_1250 kL_law_1251 kL_law_1252 kL_law_1254 kL_law_1255 kL_law_1256 kL_law_1261 (by decide) (fun n3 c3 hT3 => kk _ _ _ _ h1 hT3)
set_option maxHeartbeats 4000000 in
set_option maxRecDepth 100000 in
theorem cs_undo (h : LC l p s m args meth c L xs w) {i n c' B : Nat} (hT : T2 0 331 n c' B sg) (hi : i + 7 ≤ L) (hB : 7260 ≤ B ∧ B ≤ 50000) (hcell : cs + 1 ≤ 601024 ∧ sl + 6 ≤ 7293034) (kk : ∀ w1 g3 n c', LC l p s m args meth c L xs w1 → T2 0 331 n c' (B + 60) g3 → V p l e (mRm mtL_law) s m args below meth c mtL_law w1 Q (cs + 1) (sl + 6) 1906 (lloc (nI i) none none) [] g3) : V p l e (mRm mtL_law) s m args below meth c mtL_law w Q cs sl 1264 (lloc (nI i) none none) [] sg := by
  obtain ⟨hC, hX, hWr, hBs, hXs, hbl, hL, hl0⟩ := id h
  refine V_aload_n hC kL_law_1264 rfl ?_
  refine V_aload_n hC kL_law_1265 rfl ?_
  refine V_callT hC hX (lw_undo hWr hl0 (o := 339) (x := 0) hT.rel hT.inv hT.mr) mt_L_undo ltL_166 kL_law_1266 rfl rfl (Nat.le_of_ble_eq_true rfl) ⟨(Nat.le_of_ble_eq_true rfl), (Nat.le_of_ble_eq_true rfl)⟩ ⟨hcell.1, hcell.2⟩ (fun r w1 g2 hp => PW_post hp) (fun y w1 g2 hp => ?_)
  obtain ⟨k, hk, hw, post, hM, hpost⟩ := pr_undo hT (by decide) hWr hp
  obtain rfl : y = k := by cases hk; rfl
  have h1 := h.go hw
  have hC1 := h1.1
  refine V_istore hC1 (lloc (nI i) (some (vI y)) none) kL_law_1269 rfl (Nat.le_of_ble_eq_true rfl) ?_
  refine V_aload_n hC1 kL_law_1271 rfl ?_
  refine V_cM hC1 hM mkX6_undo lmL_168 kL_law_1272 rfl rfl rfl (Nat.le_of_ble_eq_true rfl) ⟨(Nat.le_of_ble_eq_true rfl), (Nat.le_of_ble_eq_true rfl)⟩ ⟨rfl, rfl⟩ ⟨hcell.1, hcell.2⟩ hpost (fun b g3 hD => ?_)
  exact V_tail h1 ⟨hcell.1, hcell.2⟩ hD kL_law_1275 kL_law_1277 kL_law_1278 kL_law_1281 kL_law_1283 kL_law_1288 kL_law_1290 kL_law_1293 kL_law_1294 kL_law_1295 kL_law_1296 kL_law_1298 kL_law_1299 kL_law_1300 kL_law_1305 (by decide) (fun n3 c3 hT3 => kk _ _ _ _ h1 hT3)
set_option maxHeartbeats 4000000 in
set_option maxRecDepth 100000 in
theorem cs_handedIn (h : LC l p s m args meth c L xs w) {i n c' B : Nat} (hT : T2 0 331 n c' B sg) (hi : i + 7 ≤ L) (hB : 7260 ≤ B ∧ B ≤ 50000) (hcell : cs + 1 ≤ 601024 ∧ sl + 6 ≤ 7293034) (kk : ∀ w1 g3 n c', LC l p s m args meth c L xs w1 → T2 0 331 n c' (B + 60) g3 → V p l e (mRm mtL_law) s m args below meth c mtL_law w1 Q (cs + 1) (sl + 6) 1906 (lloc (nI i) none none) [] g3) : V p l e (mRm mtL_law) s m args below meth c mtL_law w Q cs sl 1308 (lloc (nI i) none none) [] sg := by
  obtain ⟨hC, hX, hWr, hBs, hXs, hbl, hL, hl0⟩ := id h
  refine V_aload_n hC kL_law_1308 rfl ?_
  refine V_aload_n hC kL_law_1309 rfl ?_
  refine V_iload hC kL_law_1310 rfl ?_
  refine V_iconst hC (1) kL_law_1312 (by decide) ?_
  refine V_iadd hC kL_law_1313 ?_
  refine V_xald h kL_law_1314 (sc_in (k := 1) hi hL (by decide)) ?_
  refine V_nameI (fun a1 e1 => ?_)
  refine V_aload_n hC kL_law_1315 rfl ?_
  refine V_iload hC kL_law_1316 rfl ?_
  refine V_iconst hC (2) kL_law_1318 (by decide) ?_
  refine V_iadd hC kL_law_1319 ?_
  refine V_xald h kL_law_1320 (sc_in (k := 2) hi hL (by decide)) ?_
  refine V_nameI (fun a2 e2 => ?_)
  refine V_aload_n hC kL_law_1321 rfl ?_
  refine V_callT hC hX (lw_handedIn hWr hl0 a1 a2 (o := 339) (x := 0) hT.rel hT.inv hT.bt) mt_L_handedIn ltL_169 kL_law_1322 rfl rfl (Nat.le_of_ble_eq_true rfl) ⟨(Nat.le_of_ble_eq_true rfl), (Nat.le_of_ble_eq_true rfl)⟩ ⟨hcell.1, hcell.2⟩ (fun r w1 g2 hp => PW_post hp) (fun y w1 g2 hp => ?_)
  obtain ⟨k, hk, hw, post, hM, hpost⟩ := pr_trial hT (by decide) hWr hp (fun v g hv e1 => by
    have z := ct_handedIn (l := l) (sg := g) (mo := 331) hv a1 a2 (by rw [e1]; exact hT.inv)
    rw [e1] at z
    exact z) (fun hK => RH_eq (hT.2.1.more hT.inv (by omega) (khand_0 hK)))
  obtain rfl : y = k := by cases hk; rfl
  have h1 := h.go hw
  have hC1 := h1.1
  refine V_istore hC1 (lloc (nI i) (some (vI y)) none) kL_law_1325 rfl (Nat.le_of_ble_eq_true rfl) ?_
  refine V_aload_n hC1 kL_law_1327 rfl ?_
  refine V_aload_n hC1 kL_law_1328 rfl ?_
  refine V_iload hC1 kL_law_1329 rfl ?_
  refine V_iconst hC1 (1) kL_law_1331 (by decide) ?_
  refine V_iadd hC1 kL_law_1332 ?_
  refine V_xald h1 kL_law_1333 (sc_in (k := 1) hi hL (by decide)) ?_
  rw [← e1]
  refine V_aload_n hC1 kL_law_1334 rfl ?_
  refine V_iload hC1 kL_law_1335 rfl ?_
  refine V_iconst hC1 (2) kL_law_1337 (by decide) ?_
  refine V_iadd hC1 kL_law_1338 ?_
  refine V_xald h1 kL_law_1339 (sc_in (k := 2) hi hL (by decide)) ?_
  rw [← e2]
  refine V_cM hC1 hM mkX6_handedIn lmL_171 kL_law_1340 rfl rfl rfl (Nat.le_of_ble_eq_true rfl) ⟨(Nat.le_of_ble_eq_true rfl), (Nat.le_of_ble_eq_true rfl)⟩ ⟨rfl, rfl⟩ ⟨hcell.1, hcell.2⟩ hpost (fun b g3 hD => ?_)
  exact V_tail h1 ⟨hcell.1, hcell.2⟩ hD kL_law_1343 kL_law_1345 kL_law_1346 kL_law_1349 kL_law_1351 kL_law_1356 kL_law_1358 kL_law_1361 kL_law_1362 kL_law_1363 kL_law_1364 kL_law_1366 kL_law_1367 kL_law_1368 kL_law_1373 (by decide) (fun n3 c3 hT3 => kk _ _ _ _ h1 hT3)
end CASES
