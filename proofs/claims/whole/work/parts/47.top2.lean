/-! the state between the two, with the bound of what is counted -/
def svG (sg : Sg) (mo : Nat) (i : Nat) : Gs := fun z => sg (mo + 3) (140 * i + z)
def slS (sg : Sg) (mo : Nat) (j : Nat) : Gs := fun z => sg (mo + 4) (140 * j + z)
def slK (sg : Sg) (mo : Nat) (j : Nat) : Bool := decide (¬ sg (mo + 5) j = 0)
def T2 (x mo n c B : Nat) (sg : Sg) : Prop := Top x mo n c sg ∧ OB B (sg (mo + 1)) ∧ (∀ i, i < c → OB B (svG sg mo i)) ∧ ∀ j, j < 2 → slK sg mo j = true → OB B (slS sg mo j)
theorem T2.le {x mo n c B B2 : Nat} {sg : Sg} (h : T2 x mo n c B sg) (hb : B ≤ B2) : T2 x mo n c B2 sg := ⟨h.1, h.2.1.le hb, fun i hi => (h.2.2.1 i hi).le hb, fun j hj hk => (h.2.2.2 j hj hk).le hb⟩
theorem T2.rel {x mo n c B : Nat} {sg : Sg} (h : T2 x mo n c B sg) : Rel sg (x + 4) (sg (mo + 1)) := h.1.1
theorem T2.inv {x mo n c B : Nat} {sg : Sg} (h : T2 x mo n c B sg) : Inv (sg (mo + 1)) := h.1.2.1
theorem T2.bt {x mo n c B : Nat} {sg : Sg} (h : T2 x mo n c B sg) : Bt sg (x + 22) := h.1.2.2.1
theorem T2.mr {x mo n c B : Nat} {sg : Sg} (h : T2 x mo n c B sg) : MRel sg (x + 40) c (svG sg mo) (slK sg mo) (slS sg mo) := h.1.2.2.2.1
theorem T2.tr {x mo n c B : Nat} {sg : Sg} (h : T2 x mo n c B sg) : TR sg (x + 1) (sg (mo + 6)) n := h.1.2.2.2.2.1
theorem T2.n {x mo n c B : Nat} {sg : Sg} (h : T2 x mo n c B sg) : sg mo 8 = nI n := h.1.2.2.2.2.2.1
theorem T2.c {x mo n c B : Nat} {sg : Sg} (h : T2 x mo n c B sg) : c ≤ 14 := h.1.2.2.2.2.2.2.1
theorem T2.m {x mo n c B : Nat} {sg : Sg} (h : T2 x mo n c B sg) : sg mo 4 = nI c := h.1.2.2.2.2.2.2.2
theorem T2.mk {x mo n c B : Nat} {sg : Sg} (h1 : Rel sg (x + 4) (sg (mo + 1))) (h2 : Inv (sg (mo + 1))) (h3 : Bt sg (x + 22)) (h4 : MRel sg (x + 40) c (svG sg mo) (slK sg mo) (slS sg mo)) (h5 : TR sg (x + 1) (sg (mo + 6)) n) (h6 : sg mo 8 = nI n) (h7 : c ≤ 14) (h8 : sg mo 4 = nI c) (o1 : OB B (sg (mo + 1))) (o2 : ∀ i, i < c → OB B (svG sg mo i)) (o3 : ∀ j, j < 2 → slK sg mo j = true → OB B (slS sg mo j)) : T2 x mo n c B sg := ⟨⟨h1, h2, h3, h4, h5, h6, h7, h8⟩, o1, o2, o3⟩
/-- the reference's rows are the same, the class's cells too, but for the trial -/
theorem T2.keep {x mo n c B : Nat} {sg g2 : Sg} (h : T2 x mo n c B sg) (hx : x + 331 ≤ mo) (hb : Bt g2 (x + 22)) (e1 : ∀ k, k < x + 331 → (k < x + 22 ∨ x + 40 ≤ k) → g2 k = sg k) (m1 : g2 (mo + 1) = sg (mo + 1)) (m3 : g2 (mo + 3) = sg (mo + 3)) (m4 : g2 (mo + 4) = sg (mo + 4)) (m5 : g2 (mo + 5) = sg (mo + 5)) (m6 : g2 (mo + 6) = sg (mo + 6)) (m8 : g2 mo 8 = sg mo 8) (m9 : g2 mo 4 = sg mo 4) : T2 x mo n c B g2 := by
  have q1 : svG g2 mo = svG sg mo := by unfold svG; rw [m3]
  have q2 : slS g2 mo = slS sg mo := by unfold slS; rw [m4]
  have q3 : slK g2 mo = slK sg mo := by unfold slK; rw [m5]
  refine T2.mk ?_ ?_ hb ?_ ?_ (m8.trans h.n) h.c (m9.trans h.m) ?_ ?_ ?_
  · rw [m1]
    exact h.rel.fr h.inv.cn (fun k h1 h2 => e1 k (by omega) (by omega))
  · rw [m1]
    exact h.inv
  · rw [q1, q2, q3]
    exact h.mr.fr (fun k h1 h2 => e1 k (by omega) (by omega))
  · rw [m6]
    exact h.tr.fr (by rw [e1 (x + 1) (by omega) (by omega)]) (e1 _ (by omega) (by omega))
  · rw [m1]
    exact h.2.1
  · rw [q1]
    exact h.2.2.1
  · rw [q2, q3]
    exact h.2.2.2
/-- only the reference's own cell, and there neither the text's length nor the count of states -/
theorem T2.same {x mo n c B : Nat} {sg g2 : Sg} (h : T2 x mo n c B sg) (hx : x + 331 ≤ mo) (e : ∀ k, k ≠ mo → g2 k = sg k) (e8 : g2 mo 8 = sg mo 8) (e4 : g2 mo 4 = sg mo 4) : T2 x mo n c B g2 := h.keep hx (h.bt.fr (fun k h1 h2 => e k (by omega))) (fun k hk _ => e k (by omega)) (e _ (by omega)) (e _ (by omega)) (e _ (by omega)) (e _ (by omega)) (e _ (by omega)) e8 e4
theorem T2.thr {x mo n c B : Nat} {sg : Sg} (h : T2 x mo n c B sg) (hx : x + 331 ≤ mo) (v : Int32) : T2 x mo n c B (ups sg mo 0 v) := h.same hx (fun k hk => ups_ne _ _ _ hk) (by rw [ups_v, if_neg (by omega)]) (by rw [ups_v, if_neg (by omega)])
theorem T2.trial {x mo n c B : Nat} {sg g2 : Sg} (h : T2 x mo n c B sg) (hx : x + 331 ≤ mo) (e : Fr (x + 22) sg g2) (hb : Bt g2 (x + 22)) : T2 x mo n c B g2 := by
  have a : ∀ k, mo ≤ k → g2 k = sg k := fun k hk => e k (Or.inr (by omega))
  exact h.keep hx hb (fun k h1 h2 => e k (by omega)) (a _ (by omega)) (a _ (by omega)) (a _ (by omega)) (a _ (by omega)) (a _ (by omega)) (by rw [a mo (Nat.le_refl _)]) (by rw [a mo (Nat.le_refl _)])
theorem T2.upr2 {x mo n c B k0 : Nat} {sg : Sg} (h : T2 x mo n c B sg) (hx : x + 331 ≤ mo) (hk : k0 = mo + 2 ∨ k0 = mo + 7) (r : Nat → Int32) : T2 x mo n c B (upr sg k0 r) := h.keep hx (h.bt.fr (fun k h1 h2 => upr_ne _ _ (by omega))) (fun k h1 h2 => upr_ne _ _ (by omega)) (upr_ne _ _ (by omega)) (upr_ne _ _ (by omega)) (upr_ne _ _ (by omega)) (upr_ne _ _ (by omega)) (upr_ne _ _ (by omega)) (by rw [upr_ne _ _ (by omega)]) (by rw [upr_ne _ _ (by omega)])
theorem MRel.congr {sg : Sg} {y n : Nat} {G G' : Nat → Gs} {K K' : Nat → Bool} {S S' : Nat → Gs} (h : MRel sg y n G K S) (eG : ∀ i, i < n → ∀ z, z < 140 → G' i z = G i z) (eK : ∀ j, j < 2 → K' j = K j) (eS : ∀ j, j < 2 → K j = true → ∀ z, z < 140 → S' j z = S j z) : MRel sg y n G' K' S' := by
  obtain ⟨f, h1, h2, h3, h4, h5, h6, h7, h8, h9⟩ := h
  refine ⟨f, h1, h2, h3, h4, fun i hi => ⟨(h5 i hi).1.congr (h5 i hi).2.cn (eG i hi), (h5 i hi).2.congr (eG i hi)⟩, h6, h7, fun i hi => ?_, fun j hj hk => ?_⟩
  · rw [h8 i hi]
    by_cases z : i < 2
    · rw [eK i z]
    · simp [z]
  · rw [eK j hj] at hk
    exact ⟨(h9 j hj hk).1.congr (h9 j hj hk).2.cn (eS j hj hk), (h9 j hj hk).2.congr (eS j hj hk)⟩
theorem OB.congr {B : Nat} {g g2 : Gs} (h : OB B g) (e : ∀ z, z < 140 → g2 z = g z) : OB B g2 := h.un (fun m hm => e _ (by omega))
/-- one state is remembered -/
theorem sv_push {sv g : Nat → Int32} {c i z : Nat} (hc : c ≤ 14) (hi : i < nPush c) (hz : z < 140) : F_sv sv g c (140 * i + z) = gPush (fun i z => sv (140 * i + z)) c g i z := by
  unfold nPush at hi
  unfold F_sv gPush Gpush fb_put csv
  by_cases h14 : c = 14
  · subst h14
    rw [if_pos rfl] at hi
    rw [if_pos rfl, if_pos rfl, if_pos rfl]
    by_cases h13 : i < 13
    · rw [if_neg (by omega), if_pos h13]
      unfold cpy
      rw [if_pos (by omega)]
      exact congrArg sv (by omega)
    · rw [if_pos (by omega), if_neg h13]
      exact congrArg g (by omega)
  · rw [if_neg h14] at hi
    rw [if_neg h14, if_neg h14, if_neg h14]
    by_cases h13 : i < c
    · rw [if_neg (by omega), if_pos h13]
    · rw [if_pos (by omega), if_neg h13]
      exact congrArg g (by omega)
theorem nPush_c (c : Nat) : nPush c = csv c + 1 := by unfold nPush csv; split <;> rfl
theorem nPush_le {c : Nat} (h : c ≤ 14) : nPush c ≤ 14 := by unfold nPush; split <;> omega
theorem gPush_OB {B c i : Nat} {G : Nat → Gs} {g : Gs} (h : ∀ i, i < c → OB B (G i)) (hg : OB B g) (hc : c ≤ 14) (hi : i < nPush c) : OB B (gPush G c g i) := by
  unfold nPush at hi
  unfold gPush Gpush
  by_cases h14 : c = 14
  · rw [if_pos h14] at hi ⊢
    by_cases h13 : i < 13
    · rw [if_pos h13]
      exact h (i + 1) (by omega)
    · rw [if_neg h13]
      exact hg
  · rw [if_neg h14] at hi ⊢
    by_cases h13 : i < c
    · rw [if_pos h13]
      exact h i h13
    · rw [if_neg h13]
      exact hg
theorem T2.push {x mo n c B B2 : Nat} {sg g2 : Sg} {g' : Gs} (h : T2 x mo n c B sg) (hx : x + 331 ≤ mo) (hp : PM x (nPush c) (gPush (svG sg mo) c (sg (mo + 1))) (slK sg mo) (slS sg mo) g' sg g2) (hI : Inv g') (hO : OB B2 g') (hB : B ≤ B2) (v : Int32) : T2 x mo n (nPush c) B2 (ups (upr (G_saves g2 mo c) (mo + 1) g') mo 0 v) := by
  obtain ⟨p1, p2, p3⟩ := hp
  have a : ∀ k, mo ≤ k → g2 k = sg k := fun k hk => p3 k (Or.inr (by omega)) (Or.inr (by omega))
  have f : ∀ k, k < mo → ups (upr (G_saves g2 mo c) (mo + 1) g') mo 0 v k = g2 k := fun k hk => by
    unfold G_saves
    rw [ups_ne _ _ _ (by omega), upr_ne _ _ (by omega), ups_ne _ _ _ (by omega), upr_ne _ _ (by omega)]
  have f1 : ups (upr (G_saves g2 mo c) (mo + 1) g') mo 0 v (mo + 1) = g' := by rw [ups_ne _ _ _ (by omega), upr_at]
  have f3 : ups (upr (G_saves g2 mo c) (mo + 1) g') mo 0 v (mo + 3) = F_sv (sg (mo + 3)) (sg (mo + 1)) c := by
    unfold G_saves
    rw [ups_ne _ _ _ (by omega), upr_ne _ _ (by omega), ups_ne _ _ _ (by omega), upr_at, a _ (by omega), a _ (by omega)]
  have fo : ∀ k, mo + 4 ≤ k → ups (upr (G_saves g2 mo c) (mo + 1) g') mo 0 v k = sg k := fun k hk => by
    unfold G_saves
    rw [ups_ne _ _ _ (by omega), upr_ne _ _ (by omega), ups_ne _ _ _ (by omega), upr_ne _ _ (by omega), a _ (by omega)]
  have fm : ∀ j, j ≠ 0 → ups (upr (G_saves g2 mo c) (mo + 1) g') mo 0 v mo j = if j = 4 then nI (csv c + 1) else sg mo j := fun j hj => by
    unfold G_saves
    rw [ups_v, if_neg (by omega), upr_ne _ _ (by omega), ups_v]
    by_cases z : j = 4
    · rw [if_pos ⟨rfl, z⟩, if_pos z]
    · rw [if_neg (by omega), if_neg z, upr_ne _ _ (by omega), a _ (by omega)]
  generalize ups (upr (G_saves g2 mo c) (mo + 1) g') mo 0 v = g3 at f f1 f3 fo fm ⊢
  have q2 : slS g3 mo = slS sg mo := by unfold slS; rw [fo _ (by omega)]
  have q3 : slK g3 mo = slK sg mo := by unfold slK; rw [fo _ (by omega)]
  have q1 : ∀ i, i < nPush c → ∀ z, z < 140 → svG g3 mo i z = gPush (svG sg mo) c (sg (mo + 1)) i z := fun i hi z hz => by
    unfold svG
    rw [f3]
    exact sv_push h.c hi hz
  refine T2.mk ?_ ?_ ?_ ?_ ?_ ?_ (nPush_le h.c) ?_ ?_ ?_ ?_
  · rw [f1]
    exact p2.fr hI.cn (fun k h1 h2 => f k (by omega))
  · rw [f1]
    exact hI
  · exact h.bt.fr (fun k h1 h2 => (f k (by omega)).trans (p3 k (by omega) (by omega)))
  · rw [q2, q3]
    exact (p1.fr (fun k h1 h2 => f k (by omega))).congr q1 (fun _ _ => rfl) (fun _ _ _ _ _ => rfl)
  · rw [fo _ (by omega)]
    exact h.tr.fr (by rw [f _ (by omega), p3 _ (by omega) (by omega)]) ((f _ (by omega)).trans (p3 _ (by omega) (by omega)))
  · rw [fm 8 (by decide), if_neg (by decide)]
    exact h.n
  · rw [fm 4 (by decide), if_pos rfl, nPush_c]
  · rw [f1]
    exact hO
  · exact fun i hi => (gPush_OB (fun i hi => (h.2.2.1 i hi).le hB) (h.2.1.le hB) h.c hi).congr (q1 i hi)
  · rw [q2, q3]
    exact fun j hj hk => (h.2.2.2 j hj hk).le hB
/-- another state is brought: undo, restore -/
theorem T2.bring {x mo n c c2 B : Nat} {sg g2 g3 : Sg} {g' : Gs} (h : T2 x mo n c B sg) (hx : x + 331 ≤ mo) (hp : PM x c2 (svG sg mo) (slK sg mo) (slS sg mo) g' sg g2) (hI : Inv g') (hO : OB B g') (hc : c2 ≤ c) (f : ∀ k, k < mo → g3 k = g2 k) (f1 : ∀ z, z < 140 → g3 (mo + 1) z = g' z) (fo : ∀ k, mo + 2 ≤ k → g3 k = sg k) (f8 : g3 mo 8 = sg mo 8) (f4 : g3 mo 4 = nI c2) : T2 x mo n c2 B g3 := by
  obtain ⟨p1, p2, p3⟩ := hp
  have q1 : svG g3 mo = svG sg mo := by unfold svG; rw [fo _ (by omega)]
  have q2 : slS g3 mo = slS sg mo := by unfold slS; rw [fo _ (by omega)]
  have q3 : slK g3 mo = slK sg mo := by unfold slK; rw [fo _ (by omega)]
  have := h.c
  refine T2.mk ((p2.fr hI.cn (fun k h1 h2 => f k (by omega))).congr hI.cn f1) (hI.congr f1) (h.bt.fr (fun k h1 h2 => (f k (by omega)).trans (p3 k (by omega) (by omega)))) ?_ ?_ (f8.trans h.n) (by omega) f4 (hO.congr f1) ?_ ?_
  · rw [q1, q2, q3]
    exact p1.fr (fun k h1 h2 => f k (by omega))
  · rw [fo _ (by omega)]
    exact h.tr.fr (by rw [f _ (by omega), p3 _ (by omega) (by omega)]) ((f _ (by omega)).trans (p3 _ (by omega) (by omega)))
  · rw [q1]
    exact fun i hi => h.2.2.1 i (by omega)
  · rw [q2, q3]
    exact h.2.2.2
