/-! the pairs, one by one -/
theorem chk_un (sg : Sg) (mo : Nat) {j : Nat} (h : j < 9 ∨ 12 < j) : F_chk sg mo j = upd (sg mo) 0 0 j := reads_un h
theorem lN_inj {a b : Nat} (ha : a < 10 ^ 18) (hb : b < 10 ^ 18) (h : lN a = lN b) : a = b := by
  have h1 := congrArg (fun z : Int64 => z.toBitVec.toNat) h
  have h2 : (lN a).toBitVec.toNat = (lN b).toBitVec.toNat := h1
  rw [lN_nat (by omega), lN_nat (by omega)] at h2
  exact h2
section PAIRS2
variable {l : Launch} {w w1 : Wd} {o x mo n c B : Nat} {sg g2 : Sg} {r : Option VV}
theorem pr_load (hT : T2 x mo n c B sg) (hx : x + 331 ≤ mo) (hB : 7260 ≤ B) (hWr : Wr w) (hp : PV o w ((F_reads (sg (mo + 6)) (upd (sg mo) 0 0) (sg (mo + 1)) 0).1 10 = 0) (fun r g2 => ¬ (F_reads (sg (mo + 6)) (upd (sg mo) 0 0) (sg (mo + 1)) 0).1 10 = 0 ∧ r = (F_reads (sg (mo + 6)) (upd (F_chk sg mo) 4 0) (F_begins (sg (mo + 1))) 1).1 12 ∧ F3 x sg g2 ∧ Rel g2 (x + 4) (F_reads (sg (mo + 6)) (upd (F_chk sg mo) 4 0) (F_begins (sg (mo + 1))) 1).2 ∧ MRel g2 (x + 40) 0 (svG sg mo) (fun _ => false) (slS sg mo)) (F4 x sg) r w1 g2) : Pr l w w1 o x mo B mtX6_load [] r g2 := by
  have e : ∀ k, mo ≤ k → g2 k = sg k := by
    rcases hp with ⟨-, y, -, hf⟩ | ⟨-, -, -, hP⟩
    · exact fun k hk => hf.2.2.1.1 k (by omega)
    · exact fun k hk => hP.1 k (by omega) (by omega)
  have eC : F_chk g2 mo = F_chk sg mo := by unfold F_chk; rw [e _ (by omega), e mo (Nat.le_refl _), e _ (by omega)]
  have eL : F_ld g2 mo = F_ld sg mo := by unfold F_ld; rw [eC, e _ (by omega), e _ (by omega)]
  have hM : ∀ v, Wr v → M l mtX6_load v [vR (some (6, 0, mo))] g2 (rI (P_load g2 mo)) := fun v hv => ct_load hv hT.tr.2.1 (by rw [e mo (Nat.le_refl _)]; exact hT.n) (by rw [e _ (by omega)]; exact hT.inv)
  have c8 : F_chk sg mo 8 = nI n := (chk_un sg mo (by decide)).trans ((pk_un (by decide)).trans hT.n)
  have c4 : F_chk sg mo 4 = nI c := (chk_un sg mo (by decide)).trans ((pk_un (by decide)).trans hT.m)
  have c0 : F_chk sg mo 0 = 0 := (chk_un sg mo (by decide)).trans pk_us
  rcases hp with ⟨rfl, y, rfl, hf⟩ | ⟨hK, rfl, rfl, hP⟩
  · obtain ⟨hK, hy, h3, hR, hm⟩ := hf
    refine ⟨0, rfl, Or.inr ⟨_, rfl⟩, _, hM _ hWr.setL, fun r2 g3 h => ?_⟩
    obtain ⟨b, rfl, -, hb⟩ := h
    obtain ⟨hb, hg⟩ := hb (by rw [eC]; exact hK)
    rw [eL] at hb hg
    have l : ∀ j, (j < 9 ∨ 12 < j) → (F_ld sg mo).1 j = upd (F_chk sg mo) 4 0 j := fun j hj => by
      unfold F_ld
      exact reads_un hj
    have l8 : (F_ld sg mo).1 8 = nI n := (l 8 (by decide)).trans ((pk_un (by decide)).trans c8)
    have l4 : (F_ld sg mo).1 4 = 0 := (l 4 (by decide)).trans pk_us
    have l0 : (F_ld sg mo).1 0 = 0 := (l 0 (by decide)).trans ((pk_un (by decide)).trans c0)
    have hy2 : y = (F_ld sg mo).1 12 := by
      unfold F_ld
      exact hy
    have f1 : g3 (mo + 1) = (F_ld sg mo).2 := by rw [hg, upr_at]
    have fm : g3 mo = (F_ld sg mo).1 := by rw [hg, upr_ne _ _ (by omega), upr_at]
    have f5 : g3 (mo + 5) = upd (upd (sg (mo + 5)) 0 0) 1 0 := by rw [hg, upr_ne _ _ (by omega), upr_ne _ _ (by omega), upr_at, e _ (by omega)]
    have f : ∀ k, k ≠ mo → k ≠ mo + 1 → k ≠ mo + 5 → g3 k = g2 k := fun k h1 h2 h4 => by rw [hg, upr_ne _ _ h2, upr_ne _ _ h1, upr_ne _ _ h4]
    have fx : ∀ k, k < mo → g3 k = g2 k := fun k hk => f k (by omega) (by omega) (by omega)
    have f3 : svG g3 mo = svG sg mo := by unfold svG; rw [f _ (by omega) (by omega) (by omega), e _ (by omega)]
    have f4 : slS g3 mo = slS sg mo := by unfold slS; rw [f _ (by omega) (by omega) (by omega), e _ (by omega)]
    have f6 : g3 (mo + 6) = sg (mo + 6) := (f _ (by omega) (by omega) (by omega)).trans (e _ (by omega))
    have qK : ∀ j, j < 2 → slK g3 mo j = false := fun j hj => by
      unfold slK
      rw [f5]
      have : upd (upd (sg (mo + 5)) 0 0) 1 0 j = 0 := by
        rcases (show j = 0 ∨ j = 1 by omega) with rfl | rfl
        · exact (pk_un (by decide)).trans pk_us
        · exact pk_us
      rw [this]
      rfl
    have hI : Inv (F_ld sg mo).2 := Inv_rds (q := (F_r0 (sg (mo + 6)) (upd (F_chk sg mo) 4 0) 1, F_begins (sg (mo + 1)))) (Inv_begins _) _
    refine ⟨b, rfl, by rw [fm]; exact l0, fun _ => by rw [setL_at, hy2, hb], n, 0, T2.mk ?_ ?_ ?_ ?_ ?_ (by rw [fm]; exact l8) (by decide) (by rw [fm]; exact l4) ?_ (fun i hi => absurd hi (Nat.not_lt_zero _)) (fun j hj hk => by rw [qK j hj] at hk; cases hk)⟩
    · rw [f1]
      exact hR.fr hI.cn (fun k h1 h2 => fx k (by omega))
    · rw [f1]
      exact hI
    · exact hT.bt.fr (fun k h1 h2 => (fx k (by omega)).trans (h3.1 k (by omega)))
    · rw [f3, f4]
      exact (hm.fr (fun k h1 h2 => fx k (by omega))).congr (fun _ _ _ _ => rfl) (fun j hj => qK j hj) (fun _ _ _ _ _ => rfl)
    · rw [f6]
      exact hT.tr.fr (by rw [fx _ (by omega)]; exact h3.2) ((fx _ (by omega)).trans (h3.1 _ (by omega)))
    · rw [f1]
      exact OB.reads.le (by omega)
  · refine ⟨1, rfl, Or.inl rfl, _, hM _ hWr, fun r2 g3 h => ?_⟩
    obtain ⟨b, rfl, hb, -⟩ := h
    obtain ⟨rfl, rfl⟩ := hb (by rw [eC]; exact hK)
    rw [eC]
    refine ⟨0, rfl, by rw [upr_at, pk_us], fun z => absurd z (by decide), n, c, ?_⟩
    have h9 : ∀ k, k < mo → k ≠ x + 1 → k ≠ x + 3 → upr g2 mo (upd (F_chk sg mo) 0 1) k = sg k := fun k h1 h2 h4 => (upr_ne _ _ (by omega)).trans (hP.1 k h2 h4)
    have h8 : ∀ k, mo < k → upr g2 mo (upd (F_chk sg mo) 0 1) k = sg k := fun k h1 => (upr_ne _ _ (by omega)).trans (e k (by omega))
    have hT' := hT.le (B2 := B + 60) (by omega)
    have f3 : svG (upr g2 mo (upd (F_chk sg mo) 0 1)) mo = svG sg mo := by unfold svG; rw [h8 _ (by omega)]
    have f4 : slS (upr g2 mo (upd (F_chk sg mo) 0 1)) mo = slS sg mo := by unfold slS; rw [h8 _ (by omega)]
    have f5 : slK (upr g2 mo (upd (F_chk sg mo) 0 1)) mo = slK sg mo := by unfold slK; rw [h8 _ (by omega)]
    refine T2.mk ?_ ?_ ?_ ?_ ?_ (by rw [upr_at, pk_un (by decide)]; exact c8) hT.c (by rw [upr_at, pk_un (by decide)]; exact c4) ?_ ?_ ?_
    · rw [h8 _ (by omega)]
      exact hT.rel.fr hT.inv.cn (fun k h1 h2 => h9 k (by omega) (by omega) (by omega))
    · rw [h8 _ (by omega)]
      exact hT.inv
    · exact hT.bt.fr (fun k h1 h2 => h9 k (by omega) (by omega) (by omega))
    · rw [f3, f4, f5]
      exact hT.mr.fr (fun k h1 h2 => h9 k (by omega) (by omega) (by omega))
    · rw [h8 _ (by omega)]
      exact hT.tr.fr (by rw [upr_ne _ _ (by omega)]; exact hP.2) (h9 _ (by omega) (by omega) (by omega))
    · rw [h8 _ (by omega)]
      exact hT'.2.1
    · rw [f3]
      exact hT'.2.2.1
    · rw [f4, f5]
      exact hT'.2.2.2
theorem pr_runScript (a : Int32) (u : Int64) (hT : T2 x mo n c B sg) (hx : x + 331 ≤ mo) (hWr : Wr w) (hp : PV o w (¬ cScript a u) (fun r g2 => cScript a u ∧ (∃ S, u = lN S ∧ S < 10 ^ 18 ∧ r = R_runScript (sg (mo + 1)) (sg (mo + 7)) S (tn a)) ∧ Fr (x + 22) sg g2 ∧ Bt g2 (x + 22)) (fun g2 => g2 = sg) r w1 g2) : Pr l w w1 o x mo B mtX6_runScript [vI a, vL u] r g2 := by
  have hT' := hT.le (B2 := B + 60) (by omega)
  rcases hp with ⟨rfl, y, rfl, hf⟩ | ⟨hK, rfl, rfl, rfl⟩
  · obtain ⟨hK, ⟨S, hu, hS, hy⟩, h3, h4⟩ := hf
    have e : ∀ k, mo ≤ k → g2 k = sg k := fun k hk => h3 k (Or.inr (by omega))
    refine ⟨0, rfl, Or.inr ⟨_, rfl⟩, _, ct_runScript hWr.setL a u (by rw [e _ (by omega)]; exact hT.inv), fun r2 g3 h => ?_⟩
    obtain ⟨b, rfl, hb, -⟩ := h
    obtain ⟨S2, fr, hu2, hS2, hb2, hg2⟩ := hb hK
    subst hg2
    obtain rfl : S = S2 := lN_inj hS hS2 (hu.symm.trans hu2)
    have hb3 : b = R_runScript (sg (mo + 1)) (sg (mo + 7)) S (tn a) := by
      rw [← e (mo + 1) (by omega), ← e (mo + 7) (by omega)]
      exact hb2
    refine ⟨b, rfl, ups_s _ _ _ _, fun _ => by rw [setL_at, hy, hb3], n, c, ?_⟩
    exact (((hT'.trial hx h3 h4).upr2 hx (Or.inl rfl) _).upr2 hx (Or.inr rfl) fr).thr hx 0
  · refine ⟨1, rfl, Or.inl rfl, _, ct_runScript hWr a u hT.inv, fun r2 g3 h => ?_⟩
    obtain ⟨b, rfl, -, hb⟩ := h
    obtain ⟨rfl, rfl⟩ := hb hK
    exact ⟨0, rfl, ups_s _ _ _ _, fun z => absurd z (by decide), n, c, hT'.thr hx 1⟩
/-! calls that don't throw -/
def Dd (x mo B : Nat) (a b : Int32) (g3 : Sg) : Prop := a = b ∧ ∃ n c, T2 x mo n c (B + 60) g3
def Pd (l : Launch) (w : Wd) (x mo B : Nat) (tm : Mt) (r : Option VV) (g2 : Sg) : Prop := ∃ a, r = some (vI a) ∧ ∃ post, M l tm w [vR (some (6, 0, mo))] g2 post ∧ ∀ r2 g3, post r2 g3 → ∃ b, r2 = some (vI b) ∧ Dd x mo B a b g3
theorem pd_dark (hT : T2 x mo n c B sg) (hx : x + 331 ≤ mo) (hWr : Wr w) (hp : fI (F_dark (sg (mo + 1)) 200) sg r g2) : Pd l w x mo B mtX6_dark r g2 := by
  obtain ⟨rfl, rfl⟩ := hp
  exact ⟨_, rfl, _, ct_dark hWr hT.inv, fun r2 g3 h => by
    obtain ⟨rfl, rfl⟩ := h
    exact ⟨_, rfl, rfl, n, c, (hT.le (by omega)).thr hx 0⟩⟩
theorem pd_room (hT : T2 x mo n c B sg) (hx : x + 331 ≤ mo) (hWr : Wr w) (hp : fI (F_room (sg (mo + 1)) (tn (sg (mo + 1) 4))) sg r g2) : Pd l w x mo B mtX6_room r g2 := by
  obtain ⟨rfl, rfl⟩ := hp
  exact ⟨_, rfl, _, ct_room hWr hT.inv, fun r2 g3 h => by
    obtain ⟨rfl, rfl⟩ := h
    exact ⟨_, rfl, rfl, n, c, (hT.le (by omega)).thr hx 0⟩⟩
theorem pd_clear (hT : T2 x mo n c B sg) (hx : x + 331 ≤ mo) (hWr : Wr w) (hp : fI (nI n) (ups sg (x + 1) 2 0) r g2) : Pd l w x mo B mtX6_clearText r g2 := by
  obtain ⟨rfl, rfl⟩ := hp
  refine ⟨_, rfl, _, ct_clearText hWr, fun r2 g3 h => ?_⟩
  unfold fM at h
  rw [if_pos rfl] at h
  obtain ⟨rfl, rfl⟩ := h
  refine ⟨_, rfl, by rw [ups_ne _ _ _ (by omega)]; exact hT.n.symm, 0, c, ?_⟩
  have f : ∀ k, k ≠ mo → k ≠ x + 1 → ups (ups (ups sg (x + 1) 2 0) mo 8 0) mo 0 0 k = sg k := fun k h1 h2 => by rw [ups_ne _ _ _ h1, ups_ne _ _ _ h1, ups_ne _ _ _ h2]
  have f8 : ups (ups (ups sg (x + 1) 2 0) mo 8 0) mo 0 0 mo 8 = 0 := by rw [ups_v, if_neg (by omega), ups_s]
  have f4 : ups (ups (ups sg (x + 1) 2 0) mo 8 0) mo 0 0 mo 4 = sg mo 4 := by rw [ups_v, if_neg (by omega), ups_v, if_neg (by omega), ups_ne _ _ _ (by omega)]
  have fx : ups (ups (ups sg (x + 1) 2 0) mo 8 0) mo 0 0 (x + 1) 2 = 0 := by rw [ups_ne _ _ _ (by omega), ups_ne _ _ _ (by omega), ups_s]
  generalize ups (ups (ups sg (x + 1) 2 0) mo 8 0) mo 0 0 = g3 at f f8 f4 fx ⊢
  have q1 : svG g3 mo = svG sg mo := by unfold svG; rw [f _ (by omega) (by omega)]
  have q2 : slS g3 mo = slS sg mo := by unfold slS; rw [f _ (by omega) (by omega)]
  have q3 : slK g3 mo = slK sg mo := by unfold slK; rw [f _ (by omega) (by omega)]
  have hT' := hT.le (B2 := B + 60) (by omega)
  refine T2.mk ?_ ?_ (hT.bt.fr (fun k h1 h2 => f k (by omega) (by omega))) ?_ ⟨fx, by decide, fun i hi => absurd hi (Nat.not_lt_zero _), fun i hi => absurd hi (Nat.not_lt_zero _)⟩ f8 hT.c (f4.trans hT.m) ?_ ?_ ?_
  · rw [f _ (by omega) (by omega)]
    exact hT.rel.fr hT.inv.cn (fun k h1 h2 => f k (by omega) (by omega))
  · rw [f _ (by omega) (by omega)]
    exact hT.inv
  · rw [q1, q2, q3]
    exact hT.mr.fr (fun k h1 h2 => f k (by omega) (by omega))
  · rw [f _ (by omega) (by omega)]
    exact hT'.2.1
  · rw [q1]
    exact hT'.2.2.1
  · rw [q2, q3]
    exact hT'.2.2.2
theorem pd_error (hT : T2 x mo n c B sg) (hx : x + 331 ≤ mo) (hWr : Wr w) (hp : rI (fun r g2 => r = F_err (F_reads (sg (mo + 6)) (upd (sg mo) 0 0) (sg (mo + 1)) 0).1 ∧ (∀ k, k ≠ x + 1 → k ≠ x + 1 + 2 → g2 k = sg k) ∧ g2 (x + 1) 2 = sg (x + 1) 2) r g2) : Pd l w x mo B mtX6_errorPosition r g2 := by
  obtain ⟨a, rfl, ha, g, g0⟩ := hp
  have e : ∀ k, mo ≤ k → g2 k = sg k := fun k hk => g k (by omega) (by omega)
  have eC : F_chk g2 mo = F_chk sg mo := by unfold F_chk; rw [e _ (by omega), e mo (Nat.le_refl _), e _ (by omega)]
  refine ⟨_, rfl, _, ct_errorPosition hWr hT.tr.2.1 (by rw [e mo (Nat.le_refl _)]; exact hT.n) (by rw [e _ (by omega)]; exact hT.inv), fun r2 g3 h => ?_⟩
  obtain ⟨rfl, rfl⟩ := h
  rw [eC]
  refine ⟨_, rfl, ha, n, c, ?_⟩
  have f : ∀ k, k ≠ mo → k ≠ x + 1 → k ≠ x + 3 → upr g2 mo (F_chk sg mo) k = sg k := fun k h1 h2 h3 => by rw [upr_ne _ _ h1, g k h2 h3]
  have q1 : svG (upr g2 mo (F_chk sg mo)) mo = svG sg mo := by unfold svG; rw [f _ (by omega) (by omega) (by omega)]
  have q2 : slS (upr g2 mo (F_chk sg mo)) mo = slS sg mo := by unfold slS; rw [f _ (by omega) (by omega) (by omega)]
  have q3 : slK (upr g2 mo (F_chk sg mo)) mo = slK sg mo := by unfold slK; rw [f _ (by omega) (by omega) (by omega)]
  have hT' := hT.le (B2 := B + 60) (by omega)
  refine T2.mk ?_ ?_ (hT.bt.fr (fun k h1 h2 => f k (by omega) (by omega) (by omega))) ?_ ?_ ?_ hT.c ?_ ?_ ?_ ?_
  · rw [f _ (by omega) (by omega) (by omega)]
    exact hT.rel.fr hT.inv.cn (fun k h1 h2 => f k (by omega) (by omega) (by omega))
  · rw [f _ (by omega) (by omega) (by omega)]
    exact hT.inv
  · rw [q1, q2, q3]
    exact hT.mr.fr (fun k h1 h2 => f k (by omega) (by omega) (by omega))
  · rw [f _ (by omega) (by omega) (by omega)]
    exact hT.tr.fr (by rw [upr_ne _ _ (by omega)]; exact g0) (f _ (by omega) (by omega) (by omega))
  · rw [upr_at]
    exact (chk_un sg mo (by decide)).trans ((pk_un (by decide)).trans hT.n)
  · rw [upr_at]
    exact (chk_un sg mo (by decide)).trans ((pk_un (by decide)).trans hT.m)
  · rw [f _ (by omega) (by omega) (by omega)]
    exact hT'.2.1
  · rw [q1]
    exact hT'.2.2.1
  · rw [q2, q3]
    exact hT'.2.2.2
end PAIRS2
