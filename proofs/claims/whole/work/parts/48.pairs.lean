/-! a wrapper, then the reference's method: what is left to compare -/
def Dn (x mo o : Nat) (w1 : Wd) (B : Nat) (k b : Int32) (g3 : Sg) : Prop := g3 mo 0 = k ∧ (k = 0 → wL w1 o 0 = b.toInt64) ∧ ∃ n c, T2 x mo n c (B + 60) g3
def Pr (l : Launch) (w w1 : Wd) (o x mo B : Nat) (tm : Mt) (av : List VV) (r : Option VV) (g2 : Sg) : Prop := ∃ k, r = some (vI k) ∧ (w1 = w ∨ ∃ y, w1 = setL w o 0 y) ∧ ∃ post, M l tm w1 (vR (some (6, 0, mo)) :: av) g2 post ∧ ∀ r2 g3, post r2 g3 → ∃ b, r2 = some (vI b) ∧ Dn x mo o w1 B k b g3
theorem setL_at {w : Wd} {o : Nat} {y : Int64} : wL (setL w o 0 y) o 0 = y := by
  rw [wL_at]
  exact if_pos rfl
theorem Wr.setL {w : Wd} {o j : Nat} {y : Int64} (h : Wr w) : Wr (setL w o j y) := h
theorem pr_fM {l : Launch} {w w1 : Wd} {o x mo B : Nat} {tm : Mt} {av : List VV} {r : Option VV} {g2 : Sg} {K R : Int32} {G : Sg} {f : Int32 → Sg → Prop} {P : Sg → Prop} (hWr : Wr w) (hp : PW o w K f P r w1 g2) (hM : ∀ v, Wr v → M l tm v (vR (some (6, 0, mo)) :: av) g2 (fM mo g2 K R G)) (h0 : K = 0 → ∀ y, f y g2 → y = R ∧ ∃ n c, T2 x mo n c (B + 60) (ups G mo 0 0)) (h1 : ¬ K = 0 → P g2 → ∃ n c, T2 x mo n c (B + 60) (ups g2 mo 0 K)) : Pr l w w1 o x mo B tm av r g2 := by
  rcases hp with ⟨hK, rfl, y, rfl, hf⟩ | ⟨hK, rfl, rfl, hP⟩
  · obtain ⟨rfl, hT⟩ := h0 hK y hf
    refine ⟨0, rfl, Or.inr ⟨_, rfl⟩, _, hM _ hWr.setL, fun r2 g3 h => ?_⟩
    unfold fM at h
    rw [if_pos hK] at h
    obtain ⟨rfl, rfl⟩ := h
    exact ⟨_, rfl, ups_s _ _ _ _, fun _ => setL_at, hT⟩
  · refine ⟨K, rfl, Or.inl rfl, _, hM _ hWr, fun r2 g3 h => ?_⟩
    unfold fM at h
    rw [if_neg hK] at h
    obtain ⟨rfl, rfl⟩ := h
    exact ⟨_, rfl, ups_s _ _ _ _, fun z => absurd z hK, h1 hK hP⟩
theorem PW_any {o : Nat} {w w1 : Wd} {K : Int32} {f : Int32 → Sg → Prop} {P : Sg → Prop} {r : Option VV} {g2 : Sg} {Q : Prop} (hp : PW o w K f P r w1 g2) (h0 : ∀ y, f y g2 → Q) (h1 : P g2 → Q) : Q := by
  rcases hp with ⟨-, -, y, -, hf⟩ | ⟨-, -, -, hP⟩
  · exact h0 y hf
  · exact h1 hP
section PAIRS
variable {l : Launch} {w w1 : Wd} {o x mo n c B : Nat} {sg g2 : Sg} {r : Option VV}
/-- a question -/
theorem pr_read {tm : Mt} {av : List VV} {K R : Int32} (hT : T2 x mo n c B sg) (hx : x + 331 ≤ mo) (hWr : Wr w) (hp : PW o w K (fun r g2 => r = R ∧ g2 = sg) (fun g2 => g2 = sg) r w1 g2) (hM : ∀ v, Wr v → M l tm v (vR (some (6, 0, mo)) :: av) sg (fM mo sg K R sg)) : Pr l w w1 o x mo B tm av r g2 := by
  have e : g2 = sg := PW_any hp (fun _ h => h.2) id
  subst e
  exact pr_fM hWr hp hM (fun _ y h => ⟨h.1, n, c, (hT.le (by omega)).thr hx 0⟩) (fun _ _ => ⟨n, c, (hT.le (by omega)).thr hx K⟩)
/-- a change that is remembered -/
theorem pr_push {tm : Mt} {av : List VV} {K R R0 : Int32} {g' : Gs} (hT : T2 x mo n c B sg) (hx : x + 331 ≤ mo) (hWr : Wr w) (hp : PW o w K (fun r g2 => r = R0 ∧ PM x (nPush c) (gPush (svG sg mo) c (sg (mo + 1))) (slK sg mo) (slS sg mo) g' sg g2) (fun g2 => g2 = sg) r w1 g2) (hM : ∀ v g, Wr v → g (mo + 1) = sg (mo + 1) → g mo = sg mo → M l tm v (vR (some (6, 0, mo)) :: av) g (fM mo g K R (upr (G_saves g mo c) (mo + 1) g'))) (h0 : K = 0 → R0 = R ∧ Inv g' ∧ OB (B + 60) g') : Pr l w w1 o x mo B tm av r g2 := by
  have e : ∀ k, mo ≤ k → g2 k = sg k := PW_any hp (fun _ h k hk => h.2.2.2 k (Or.inr (by omega)) (Or.inr (by omega))) (fun h k _ => by rw [h])
  refine pr_fM hWr hp (fun v hv => hM v g2 hv (e _ (by omega)) (e _ (Nat.le_refl _))) (fun hK y h => ?_) (fun hK h => ?_)
  · obtain ⟨q1, q2, q3⟩ := h0 hK
    exact ⟨h.1.trans q1, n, nPush c, hT.push hx h.2 q2 q3 (by omega) 0⟩
  · subst h
    exact ⟨n, c, (hT.le (by omega)).thr hx K⟩
/-- a forecast -/
theorem pr_trial {tm : Mt} {av : List VV} {K R R0 : Int32} (hT : T2 x mo n c B sg) (hx : x + 331 ≤ mo) (hWr : Wr w) (hp : PW o w K (fun r g2 => r = R0 ∧ Fr (x + 22) sg g2 ∧ Bt g2 (x + 22)) (fun g2 => g2 = sg) r w1 g2) (hM : ∀ v g, Wr v → g (mo + 1) = sg (mo + 1) → M l tm v (vR (some (6, 0, mo)) :: av) g (fM mo g K R (G_aside g mo))) (h0 : K = 0 → R0 = R) : Pr l w w1 o x mo B tm av r g2 := by
  have e : ∀ k, mo ≤ k → g2 k = sg k := PW_any hp (fun _ h k hk => h.2.1 k (Or.inr (by omega))) (fun h k _ => by rw [h])
  refine pr_fM hWr hp (fun v hv => hM v g2 hv (e _ (by omega))) (fun hK y h => ⟨h.1.trans (h0 hK), n, c, ?_⟩) (fun hK h => ?_)
  · have h2 := (hT.le (B2 := B + 60) (by omega)).trial hx h.2.1 h.2.2
    exact (h2.upr2 hx (Or.inl rfl) _).thr hx 0
  · subst h
    exact ⟨n, c, (hT.le (by omega)).thr hx K⟩
theorem pr_undo (hT : T2 x mo n c B sg) (hx : x + 331 ≤ mo) (hWr : Wr w) (hp : PW o w (K_undo c) (fun r g2 => r = nI (c - 1) ∧ PM x (c - 1) (svG sg mo) (slK sg mo) (slS sg mo) (svG sg mo (c - 1)) sg g2) (fun g2 => g2 = sg) r w1 g2) : Pr l w w1 o x mo B mtX6_undo [] r g2 := by
  have e : ∀ k, mo ≤ k → g2 k = sg k := PW_any hp (fun _ h k hk => h.2.2.2 k (Or.inr (by omega)) (Or.inr (by omega))) (fun h k _ => by rw [h])
  refine pr_fM hWr hp (fun v hv => ct_undo hv hT.c (by rw [e mo (Nat.le_refl _)]; exact hT.m)) (fun hK y h => ⟨h.1, n, c - 1, ?_⟩) (fun hK h => ?_)
  · have hc : ¬ c = 0 := fun z => by
      rw [K_undo, if_pos z] at hK
      exact absurd hK (by decide)
    obtain ⟨f, -, -, -, -, h5, -⟩ := hT.mr
    have hI : Inv (svG sg mo (c - 1)) := (h5 (c - 1) (by omega)).2
    refine (hT.le (B2 := B + 60) (by omega)).bring hx h.2 hI ((hT.2.2.1 (c - 1) (by omega)).le (by omega)) (by omega) (fun k hk => ?_) (fun z hz => ?_) (fun k hk => ?_) ?_ ?_
    · unfold G_undo
      rw [ups_ne _ _ _ (by omega), ups_ne _ _ _ (by omega), upr_ne _ _ (by omega)]
    · unfold G_undo
      rw [ups_ne _ _ _ (by omega), ups_ne _ _ _ (by omega), upr_at]
      unfold cpy
      rw [if_pos hz, e _ (by omega)]
      rfl
    · unfold G_undo
      rw [ups_ne _ _ _ (by omega), ups_ne _ _ _ (by omega), upr_ne _ _ (by omega), e _ (by omega)]
    · unfold G_undo
      rw [ups_v, if_neg (by omega), ups_v, if_neg (by omega), upr_ne _ _ (by omega), e _ (by omega)]
    · unfold G_undo
      rw [ups_v, if_neg (by omega), ups_s]
  · subst h
    exact ⟨n, c, (hT.le (by omega)).thr hx _⟩
theorem kr_eq (hT : T2 x mo n c B sg) {a : Int32} : KR (slK sg mo) a = K_restore sg mo a := KR_eq (fun j hj => decide_eq_true_iff)
theorem pr_restore (a : Int32) (hT : T2 x mo n c B sg) (hx : x + 331 ≤ mo) (hWr : Wr w) (hp : PW o w (KR (slK sg mo) a) (fun r g2 => r = slS sg mo (tn a) 6 ∧ PM x 0 (svG sg mo) (slK sg mo) (slS sg mo) (slS sg mo (tn a)) sg g2) (fun g2 => g2 = sg) r w1 g2) : Pr l w w1 o x mo B mtX6_restore [vI a] r g2 := by
  have e : ∀ k, mo ≤ k → g2 k = sg k := PW_any hp (fun _ h k hk => h.2.2.2 k (Or.inr (by omega)) (Or.inr (by omega))) (fun h k _ => by rw [h])
  have eK : K_restore g2 mo a = KR (slK sg mo) a := by
    rw [kr_eq hT]
    unfold K_restore
    rw [e (mo + 5) (by omega)]
  refine pr_fM (R := g2 (mo + 4) (140 * tn a + 6)) (G := G_restore g2 mo (tn a)) hWr hp (fun v hv => by rw [← eK]; exact ct_restore hv a) (fun hK y h => ⟨?_, n, 0, ?_⟩) (fun hK h => ?_)
  · rw [h.1, e _ (by omega)]
    rfl
  · rw [kr_eq hT] at hK
    unfold K_restore at hK
    by_cases ha : inn a 0 1
    · rw [if_pos ha] at hK
      obtain ⟨j, hj, rfl⟩ := vp_in_of (inn_vp (m := 2) (by decide) ha) (by decide)
      have ej : tn (nI j) = j := nI_clamp (by omega)
      rw [ej] at hK h ⊢
      have hk : slK sg mo j = true := by
        refine decide_eq_true (fun z => ?_)
        rw [if_pos z] at hK
        exact absurd hK (by decide)
      obtain ⟨f, -, -, -, -, -, -, -, -, h9⟩ := hT.mr
      have hI : Inv (slS sg mo j) := (h9 j hj hk).2
      refine (hT.le (B2 := B + 60) (by omega)).bring hx h.2 hI ((hT.2.2.2 j hj hk).le (by omega)) (Nat.zero_le _) (fun k hk => ?_) (fun z hz => ?_) (fun k hk => ?_) ?_ ?_
      · unfold G_restore
        rw [ups_ne _ _ _ (by omega), ups_ne _ _ _ (by omega), upr_ne _ _ (by omega)]
      · unfold G_restore
        rw [ups_ne _ _ _ (by omega), ups_ne _ _ _ (by omega), upr_at]
        unfold cpy
        rw [if_pos hz, e _ (by omega)]
        rfl
      · unfold G_restore
        rw [ups_ne _ _ _ (by omega), ups_ne _ _ _ (by omega), upr_ne _ _ (by omega), e _ (by omega)]
      · unfold G_restore
        rw [ups_v, if_neg (by omega), ups_v, if_neg (by omega), upr_ne _ _ (by omega), e _ (by omega)]
      · unfold G_restore
        rw [ups_v, if_neg (by omega), ups_s]
        rfl
    · rw [if_neg ha] at hK
      exact absurd hK (by decide)
  · subst h
    exact ⟨n, c, (hT.le (by omega)).thr hx _⟩
theorem pr_save (a : Int32) (hT : T2 x mo n c B sg) (hx : x + 331 ≤ mo) (hWr : Wr w) (hp : PW o w (K_slot a) (fun r g2 => r = sg (mo + 1) 6 ∧ PM x c (svG sg mo) (fun i => if i = tn a then true else slK sg mo i) (fun i => if i = tn a then sg (mo + 1) else slS sg mo i) (sg (mo + 1)) sg g2) (fun g2 => g2 = sg) r w1 g2) : Pr l w w1 o x mo B mtX6_save [vI a] r g2 := by
  have e : ∀ k, mo ≤ k → g2 k = sg k := PW_any hp (fun _ h k hk => h.2.2.2 k (Or.inr (by omega)) (Or.inr (by omega))) (fun h k _ => by rw [h])
  refine pr_fM (R := g2 (mo + 1) 6) (G := G_save g2 mo (tn a)) hWr hp (fun v hv => ct_save hv a) (fun hK y h => ⟨?_, n, c, ?_⟩) (fun hK h => ?_)
  · rw [h.1, e _ (by omega)]
  · unfold K_slot at hK
    by_cases ha : inn a 0 1
    · obtain ⟨j, hj, rfl⟩ := vp_in_of (inn_vp (m := 2) (by decide) ha) (by decide)
      have ej : tn (nI j) = j := nI_clamp (by omega)
      rw [ej] at h ⊢
      obtain ⟨-, p1, p2, p3⟩ := h
      have f : ∀ k, k ≠ mo → k ≠ mo + 4 → k ≠ mo + 5 → ups (G_save g2 mo j) mo 0 0 k = g2 k := fun k h1 h2 h3 => by
        unfold G_save
        rw [ups_ne _ _ _ h1, upr_ne _ _ h3, upr_ne _ _ h2]
      have f4 : ups (G_save g2 mo j) mo 0 0 (mo + 4) = fb_put (sg (mo + 4)) (sg (mo + 1)) (140 * j) 140 := by
        unfold G_save
        rw [ups_ne _ _ _ (by omega), upr_ne _ _ (by omega), upr_at, e _ (by omega), e _ (by omega)]
      have f5 : ups (G_save g2 mo j) mo 0 0 (mo + 5) = upd (sg (mo + 5)) j 1 := by
        unfold G_save
        rw [ups_ne _ _ _ (by omega), upr_at, e _ (by omega)]
      have fm : ∀ i, i ≠ 0 → ups (G_save g2 mo j) mo 0 0 mo i = sg mo i := fun i hi => by
        unfold G_save
        rw [ups_v, if_neg (by omega), upr_ne _ _ (by omega), upr_ne _ _ (by omega), e _ (by omega)]
      generalize ups (G_save g2 mo j) mo 0 0 = g3 at f f4 f5 fm ⊢
      have fx : ∀ k, k < mo → g3 k = g2 k := fun k hk => f k (by omega) (by omega) (by omega)
      have f1 : g3 (mo + 1) = sg (mo + 1) := (f _ (by omega) (by omega) (by omega)).trans (e _ (by omega))
      have f3 : svG g3 mo = svG sg mo := by unfold svG; rw [f _ (by omega) (by omega) (by omega), e _ (by omega)]
      have f6 : g3 (mo + 6) = sg (mo + 6) := (f _ (by omega) (by omega) (by omega)).trans (e _ (by omega))
      have qS : ∀ i, i < 2 → ∀ z, z < 140 → slS g3 mo i z = (if i = j then sg (mo + 1) else slS sg mo i) z := fun i hi z hz => by
        unfold slS
        rw [f4]
        unfold fb_put
        by_cases hij : i = j
        · subst hij
          rw [if_pos (by omega), if_pos rfl]
          exact congrArg (sg (mo + 1)) (by omega)
        · rw [if_neg (by omega), if_neg hij]
      have qK : ∀ i, slK g3 mo i = if i = j then true else slK sg mo i := fun i => by
        unfold slK
        rw [f5]
        by_cases hij : i = j
        · subst hij
          rw [if_pos rfl, pk_us]
          rfl
        · rw [if_neg hij, pk_un hij]
      refine T2.mk ?_ ?_ ?_ ?_ ?_ ((fm 8 (by decide)).trans hT.n) hT.c ((fm 4 (by decide)).trans hT.m) ?_ ?_ ?_
      · rw [f1]
        exact p2.fr hT.inv.cn (fun k h1 h2 => fx k (by omega))
      · rw [f1]
        exact hT.inv
      · exact hT.bt.fr (fun k h1 h2 => (fx k (by omega)).trans (p3 k (by omega) (by omega)))
      · rw [f3]
        exact (p1.fr (fun k h1 h2 => fx k (by omega))).congr (fun _ _ _ _ => rfl) (fun i _ => qK i) (fun i hi _ => qS i hi)
      · rw [f6]
        exact hT.tr.fr (by rw [fx _ (by omega), p3 _ (by omega) (by omega)]) ((fx _ (by omega)).trans (p3 _ (by omega) (by omega)))
      · rw [f1]
        exact hT.2.1.le (by omega)
      · rw [f3]
        exact fun i hi => (hT.2.2.1 i hi).le (by omega)
      · intro i hi hk
        rw [qK i] at hk
        refine OB.congr ?_ (qS i hi)
        by_cases hij : i = j
        · rw [if_pos hij]
          exact hT.2.1.le (by omega)
        · rw [if_neg hij] at hk ⊢
          exact (hT.2.2.2 i hi hk).le (by omega)
    · rw [if_neg ha] at hK
      exact absurd hK (by decide)
  · subst h
    exact ⟨n, c, (hT.le (by omega)).thr hx _⟩
theorem pr_append (a : Int32) (hT : T2 x mo n c B sg) (hx : x + 331 ≤ mo) (hWr : Wr w) (hp : PW o w (K_append a n) (fun r g2 => r = nI (n + 1) ∧ n < 120 ∧ g2 = ups (upr sg (x + 1 + 1) (upd (sg (x + 1 + 1)) n a)) (x + 1) 2 (nI (n + 1))) (fun g2 => g2 = sg) r w1 g2) : Pr l w w1 o x mo B mtX6_append [vI a] r g2 := by
  have e : ∀ k, mo ≤ k → g2 k = sg k := PW_any hp (fun _ h k hk => by rw [h.2.2, ups_ne _ _ _ (by omega), upr_ne _ _ (by omega)]) (fun h k _ => by rw [h])
  have hn := hT.tr.2.1
  refine pr_fM hWr hp (fun v hv => ct_append hv a hn (by rw [e mo (Nat.le_refl _)]; exact hT.n)) (fun hK y h => ⟨h.1, n + 1, c, ?_⟩) (fun hK h => ?_)
  · obtain ⟨-, h120, hg⟩ := h
    have ha : inn a 0 255 := Classical.byContradiction (fun z => by
      unfold K_append at hK
      rw [if_neg z] at hK
      exact absurd hK (by decide))
    have ha2 : inI a 0 255 := ⟨Int32.le_iff_toInt_le.mp ha.1, Int32.le_iff_toInt_le.mp ha.2⟩
    have f : ∀ k, k ≠ mo → k ≠ mo + 6 → ups (G_append g2 mo n a) mo 0 0 k = g2 k := fun k h1 h2 => by
      unfold G_append
      rw [ups_ne _ _ _ h1, ups_ne _ _ _ h1, upr_ne _ _ h2]
    have f6 : ups (G_append g2 mo n a) mo 0 0 (mo + 6) = upd (sg (mo + 6)) n a := by
      unfold G_append
      rw [ups_ne _ _ _ (by omega), ups_ne _ _ _ (by omega), upr_at, e _ (by omega)]
    have fm : ∀ i, i ≠ 0 → ups (G_append g2 mo n a) mo 0 0 mo i = if i = 8 then nI (n + 1) else sg mo i := fun i hi => by
      unfold G_append
      rw [ups_v, if_neg (by omega), ups_v]
      by_cases z : i = 8
      · rw [if_pos ⟨rfl, z⟩, if_pos z]
      · rw [if_neg (by omega), if_neg z, upr_ne _ _ (by omega), e _ (by omega)]
    generalize ups (G_append g2 mo n a) mo 0 0 = g3 at f f6 fm ⊢
    have fx : ∀ k, k < mo → g3 k = g2 k := fun k hk => f k (by omega) (by omega)
    have gx : ∀ k, k ≠ x + 1 → k ≠ x + 2 → g2 k = sg k := fun k h1 h2 => by rw [hg, ups_ne _ _ _ h1, upr_ne _ _ h2]
    have f1 : g3 (mo + 1) = sg (mo + 1) := (f _ (by omega) (by omega)).trans (e _ (by omega))
    have f3 : svG g3 mo = svG sg mo := by unfold svG; rw [f _ (by omega) (by omega), e _ (by omega)]
    have f4 : slS g3 mo = slS sg mo := by unfold slS; rw [f _ (by omega) (by omega), e _ (by omega)]
    have f5 : slK g3 mo = slK sg mo := by unfold slK; rw [f _ (by omega) (by omega), e _ (by omega)]
    refine T2.mk ?_ ?_ ?_ ?_ ?_ ((fm 8 (by decide)).trans (if_pos rfl)) hT.c (((fm 4 (by decide)).trans (if_neg (by decide))).trans hT.m) ?_ ?_ ?_
    · rw [f1]
      exact hT.rel.fr hT.inv.cn (fun k h1 h2 => (fx k (by omega)).trans (gx k (by omega) (by omega)))
    · rw [f1]
      exact hT.inv
    · exact hT.bt.fr (fun k h1 h2 => (fx k (by omega)).trans (gx k (by omega) (by omega)))
    · rw [f3, f4, f5]
      exact hT.mr.fr (fun k h1 h2 => (fx k (by omega)).trans (gx k (by omega) (by omega)))
    · rw [f6]
      refine ⟨?_, by omega, fun i hi => ?_, fun i hi => ?_⟩
      · rw [fx _ (by omega), hg, ups_s]
      · rw [fx _ (by omega), hg, ups_ne _ _ _ (by omega), upr_at]
        by_cases z : i = n
        · subst z
          rw [pk_us, pk_us]
        · rw [pk_un z, pk_un z]
          exact hT.tr.2.2.1 i (by omega)
      · by_cases z : i = n
        · subst z
          rw [pk_us]
          exact ha2
        · rw [pk_un z]
          exact hT.tr.2.2.2 i (by omega)
    · rw [f1]
      exact hT.2.1.le (by omega)
    · rw [f3]
      exact fun i hi => (hT.2.2.1 i hi).le (by omega)
    · rw [f4, f5]
      exact fun j hj hk => (hT.2.2.2 j hj hk).le (by omega)
  · subst h
    exact ⟨n, c, (hT.le (by omega)).thr hx _⟩
end PAIRS
