/-! THE WORLD BETWEEN THE LAW'S CALLS (printed by wip/gen/gen26.py) -/
def lwSh (mu : haMu) (k : Int) : haMu := fun j i => if j = 861 then mu 862 (1745 * k + i) else 0
theorem lwSh_at (mu : haMu) (k i : Int) : lwSh mu k 861 i = mu 862 (1745 * k + i) := if_pos rfl
def lwJp (n : Nat) (mu : haMu) : Prop := haWd mu ∧ (0 ≤ mu 861 1504 ∧ mu 861 1504 ≤ 12 * (n : Int)) ∧ ∀ k : Int, 0 ≤ k → k ≤ 2 → mu 863 k = 1 → haBw mu k ∧ haWd (lwSh mu k) ∧ 0 ≤ mu 862 (1745 * k + 1504) ∧ mu 862 (1745 * k + 1504) ≤ 12 * (n : Int)
theorem haBw_same {mu mu' : haMu} {k : Int} (h : haBw mu k) (he : ∀ i : Int, 0 ≤ i → i < 1745 → mu' 862 (1745 * k + i) = mu 862 (1745 * k + i)) : haBw mu' k := fun i h0 h1 => by rw [he i h0 h1]; exact h i h0 h1
theorem lwWd_of {mu mu' : haMu} (h : haWd mu) (he : ∀ i : Int, 0 ≤ i → i < 1745 → mu' 861 i = mu 861 i) : haWd mu' :=
  haWd_ext h (fun b' b0 b1 => ⟨he _ (by omega) (by omega), he _ (by omega) (by omega)⟩) (fun b' r' c b0 b1 r0 r1 c0 c1 _ => he _ (by omega) (by omega))
theorem lwJp_same {n n' : Nat} {mu mu' : haMu} (h : lwJp n mu) (hn : n ≤ n') (hW : haWd mu') (hf : 0 ≤ mu' 861 1504 ∧ mu' 861 1504 ≤ 12 * (n' : Int)) (h2 : ∀ i : Int, 0 ≤ i → mu' 862 i = mu 862 i) (h3 : ∀ i : Int, 0 ≤ i → mu' 863 i = mu 863 i) : lwJp n' mu' := by
  refine ⟨hW, hf, fun k k0 k2 hk => ?_⟩
  rw [h3 k k0] at hk
  obtain ⟨g1, g2, g3, g4⟩ := h.2.2 k k0 k2 hk
  refine ⟨haBw_same g1 (fun i i0 _ => h2 _ (by omega)), lwWd_of g2 (fun i i0 _ => by rw [lwSh_at, lwSh_at]; exact h2 _ (by omega)), ?_, ?_⟩
  · rw [h2 _ (by omega)]; exact g3
  · rw [h2 _ (by omega)]; omega
theorem haGd_im {i : Int} (h : 0 ≤ i) : haGd 862 i := haGd_r (r := 60) h (by decide +kernel) (by decide) (by decide +kernel)
theorem haGd_has {i : Int} (h : 0 ≤ i) : haGd 863 i := haGd_r (r := 57) h (by decide +kernel) (by decide) (by decide +kernel)
theorem lwJp_fm {n : Nat} {mu mu' : haMu} (h : lwJp n mu) (hf : haFm mu mu') : lwJp n mu' :=
  lwJp_same h (Nat.le_refl _) (haWd_fm h.1 hf) (by rw [hf 861 1504 haGd_fills]; exact h.2.1) (fun i hi => hf 862 i (haGd_im hi)) (fun i hi => hf 863 i (haGd_has hi))
/-! rows and kept flags of both sides alike -/
def lwRel (mu : haMu) : Prop := (∀ s : Int, 0 ≤ s → s ≤ 3 → mu (lwRc s) 1 = mu 883 s ∧ mu (lwRc s) 0 = mu 884 s) ∧ ∀ k : Int, 0 ≤ k → k ≤ 2 → mu 805 k = mu 863 k
def lwIs (j : Nat) : Prop := j = 883 ∨ j = 884 ∨ j = 805 ∨ j = 863 ∨ avRG0 j = 34
theorem lwNe {j : Nat} (h : lwIs j) : (¬ j = 860 ∧ ¬ j = 861 ∧ ¬ j = 862 ∧ ¬ j = 866 ∧ ¬ j = 867 ∧ ¬ j = 868 ∧ ¬ j = 869 ∧ ¬ j = 870) ∧ ¬ j = 877 ∧ ¬ j = 878 ∧ ¬ j = 817 ∧ ¬ j = 820 ∧ ¬ j = 821 ∧ ¬ j = 822 := by
  rcases h with h | h | h | h | h
  · omega
  · omega
  · omega
  · omega
  · refine ⟨⟨?_, ?_, ?_, ?_, ?_, ?_, ?_, ?_⟩, ?_, ?_, ?_, ?_, ?_, ?_⟩ <;> (intro e; subst e; exact absurd h (by decide +kernel))
theorem lwRel_of {mu mu' : haMu} (h : lwRel mu) (h1 : ∀ (j : Nat) (i : Int), haGd j i → lwIs j → mu' j i = mu j i) : lwRel mu' := by
  refine ⟨fun s s0 s3 => ?_, fun k k0 k2 => ?_⟩
  · have hg := (lwRcG ⟨s0, s3⟩).1
    rw [h1 (lwRc s) 1 (haGd_row hg (by decide)) (Or.inr (Or.inr (Or.inr (Or.inr hg)))), h1 (lwRc s) 0 (haGd_row hg (by decide)) (Or.inr (Or.inr (Or.inr (Or.inr hg)))), h1 883 s (haGd_many s0) (Or.inl rfl), h1 884 s (haGd_width s0) (Or.inr (Or.inl rfl))]
    exact h.1 s s0 s3
  · rw [h1 805 k (haGd_kept k0) (Or.inr (Or.inr (Or.inl rfl))), h1 863 k (haGd_has k0) (Or.inr (Or.inr (Or.inr (Or.inl rfl))))]
    exact h.2 k k0 k2
def lwJr (n : Nat) (mu : haMu) : Prop := lwJp n mu ∧ lwRel mu
theorem lwJp_fr {n : Nat} {mu mu' : haMu} (h : lwJp n mu) (hf : ∀ (j : Nat) (i : Int), haGd j i → (j = 861 ∨ j = 862 ∨ j = 863) → mu' j i = mu j i) : lwJp n mu' := by
  have f3 : mu' 861 1504 = mu 861 1504 := hf 861 1504 haGd_fills (Or.inl rfl)
  exact lwJp_same h (Nat.le_refl _) (haWd_ext h.1 (fun b b0 b1 => ⟨hf 861 _ (by have := haGd_hold (b := b) (i := 0) ⟨b0, b1⟩ (by omega); rwa [Int.add_zero] at this) (Or.inl rfl), hf 861 _ (by have := haGd_hold (b := b) (i := 1) ⟨b0, b1⟩ (by omega); rwa [show 520 + 164 * b + 1 = 521 + 164 * b by omega] at this) (Or.inl rfl)⟩) (fun b r c b0 b1 r0 r1 c0 c1 c3 => hf 861 _ (haGd_ring ⟨b0, b1⟩ ⟨r0, r1⟩ ⟨c0, c1⟩ c3) (Or.inl rfl))) (by rw [f3]; exact h.2.1) (fun i hi => hf 862 i (haGd_im hi) (Or.inr (Or.inl rfl))) (fun i hi => hf 863 i (haGd_has hi) (Or.inr (Or.inr rfl)))
theorem lwJr_fm {n : Nat} {mu mu' : haMu} (h : lwJr n mu) (hf : haFm mu mu') : lwJr n mu' := ⟨lwJp_fm h.1 hf, lwRel_of h.2 (fun j i hg _ => hf j i hg)⟩
noncomputable def lwG (tx : Nat → Nat) (n : Nat) : avRJ := (avRG0, fun ws => 887 ≤ ws.length ∧ lwJr n (haAt ws), tx)
theorem lwGs (tx : Nat → Nat) (n : Nat) : avJok avGUt (lwG tx n) := by
  intro ws j a e e1 hj hJ hk
  have h : haFm (haAt ws) (haAt (ws.set j (a, e1))) := haJs (RG := (avRG0, fun _ => True, tx)) rfl (haAt ws) ws j a e e1 hj (haFm.rf _) hk
  exact ⟨by rw [List.length_set]; exact hJ.1, lwJr_fm hJ.2 h⟩
/-! contracts by hand, for the engine -/
def avHd1 (D : va_G) (z sb : Nat) (RG : avRJ) (q : Nat) (c : avCon) : Prop := ∀ (l : Launch) (as : List avV) (vs : List Value) (ws : va_W) (rh : afR) (s0 : avS) (K : Option avV → avS → Bool), avFit s0 (avTheta s0 c.2.1 as) c.2.1 as = true → avAns c.2.2.1 (s0.1, avLeft c.2.2.2.1 s0.2) K = true → avSok RG ws sb rh as vs → (∀ v ∈ as, v.1 ≤ 5) → avSm as ≤ (abMe q).1.2.2.1 → afSo rh s0.1 → (∀ k ∈ s0.2, avKn RG ws sb rh k) → Met l (abNm q) (abWs q) (abRoom q (c.2.2.2.2 + 5)) (va_Pc vs (avPre D z avRT RG ws)) (avPost D z sb avRT RG rh ws K) 0 0 (fun a => z ≤ a)
theorem avCn_allH {D : va_G} {z sb : Nat} {RG : avRJ} {TT : Nat → Lean.RArray abEy} {CC : Lean.RArray (List avCon)} {OP : Lean.RArray avPo} (hT : abTabs) (hTT : avTabs avRT RG TT OP) (hTZ : avTabZ TT)
    (hc : ∀ q, q < abNM → ∀ c ∈ CC.get q, (((abMe q).2.2.1 = 0 ∧ (abMe q).2.2.2.1 = 0) ∧ avConOk avRT TT CC OP q c) ∨ avHd1 D z sb RG q c) : ∀ N, avCn D z sb avRT RG CC N
  | 0 => by
    intro l q c as vs ws rh s0 K hq hm hn h1 h2 hvs h5 hsm hso hkn
    omega
  | N + 1 => by
    have IH := avCn_allH (D := D) (z := z) (sb := sb) hT hTT hTZ hc N
    intro l q c as vs ws rh s0 K hq hm hn h1 h2 hvs h5 hsm hso hkn
    rcases hc q hq c hm with ⟨h0, h3⟩ | h3
    · exact avCon_ok hT (fun n => avRun_ok hT hTT hTZ IH n) hq h0 (by omega) h3 h1 h2 hvs hso hkn
    · exact h3 l as vs ws rh s0 K h1 h2 hvs h5 hsm hso hkn
theorem avHd_of {D : va_G} {z sb n : Nat} {tx : Nat → Nat} (hT : abTabs) {q : Nat} {c : avCon} (hq : q < abNM) (k1 : avShOk c.2.1 = true) (k2 : ∀ v ∈ c.2.1.1, v.1 ≤ 5)
    (H : ∀ (rh : afR) (ws : va_W) (vs : List Value), afSo rh (avSt0 c.2.1).1 → 887 ≤ ws.length → lwJr n (haAt ws) → avSok (lwG tx n) ws sb rh c.2.1.1 vs → ∃ (as : List avV) (P : Option avV → haMu → Prop), avSok (lwG tx n) ws sb avNo as vs ∧ haSp q c.2.2.2.2 as (haAt ws) P ∧ ∀ (o : Option avV) (mu' : haMu), P o mu' → lwJr n mu' ∧ avKc c.2.2.1 o haS0 = true) : avHd1 D z sb (lwG tx n) q c := by
  intro l as vs ws rh s0 K h1 h2 hvs h5 hsm hso hkn
  by_cases hJ : (lwG tx n).2.1 ws
  · obtain ⟨⟨f1, f2⟩, f3, f4⟩ := avFit_ok0 hso hkn k1 h1
    obtain ⟨bs, P, g1, g2, g3⟩ := H _ ws vs f1 hJ.1 hJ.2 (avSok_sh f3 k2 f4 hvs)
    have hM := g2 D z sb (lwG tx n) l ws vs rfl rfl hJ.1 g1
    refine Jvm.Free.MetFree.mono hM (fun a s h => ?_) (fun _ _ _ _ _ h => h) (fun a s o t hP hQ => ?_)
    · obtain ⟨h0, ⟨⟨tys, k1, k2, k3, k4, k5⟩, k6, k7⟩, k8, k9⟩ := h
      exact ⟨h0, ⟨⟨tys, k1, k2, k3, rfl, k5⟩, k6, k7⟩, k8, k9⟩
    · obtain ⟨⟨⟨u, rv, o, e1, e4, e5, ⟨⟨tys, k1, k2, k3, k4, k5⟩, k6, k7⟩, e6⟩, hFr⟩, hL⟩ := hQ
      obtain ⟨j1, j2⟩ := g3 o (haAt u) e6
      obtain ⟨rh2, o2, q2, i1, i2, i3, i4, i5⟩ := avKc_ok (K := K) j2 haSo e5 k3 hso h2
      exact ⟨⟨⟨rh2, o2, q2, u, rv, e1, i1, i2, e4, i3, ⟨⟨tys, k1, k2, k3, ⟨haLen e4 hJ.1, j1⟩, k5⟩, k6, k7⟩, i4, i5⟩, hFr⟩, hL⟩
  · refine abOfW (cc := abBy q) (maxL := (abMe q).1.2.2.1) (ret := abRtT q) (hT.1 q hq).1 rfl ?_
    intro p e s m args below meth c' s₁ B hml hv
    obtain ⟨-, ⟨⟨tys, hK, hC, hlen⟩, -⟩, -⟩ := hv
    exact absurd hlen.2.1 hJ
theorem haRto {RG : avRJ} {ws : va_W} {sb : Nat} {rh rh' : afR} {r j : Nat} {v : Value} (g : avGv RG ws sb rh (haR r j) v) : avGv RG ws sb rh' (haR r j) v := by
  obtain ⟨a, en, hj, rfl, er⟩ := haRf g
  exact ⟨afNil_D _, j, a, en, hj, rfl, er, (haCst _ _).symm⟩
theorem haIto {RG : avRJ} {ws : va_W} {sb : Nat} {y : Int32} : avGv RG ws sb avNo (haI y.toInt) (.int y) := ⟨afNil_D _, y, rfl, (haCst _ _).symm⟩
theorem haN0 {rh : afR} {g : afG} {x : Nat} (h : afSo rh g) (hx : x < g.1) : ∃ v : Int, rh x = some v ∧ afIn (afNth g.2.1 (g.1 - 1 - x)) v := h.1.2.1 x hx
theorem avKc9 : avKc (9, 0, 0) none haS0 = true := rfl
theorem avKcI {z lo up : Int} (h1 : lo ≤ z) (h2 : z ≤ up) : avKc (0, lo, up) (some (haI z)) haS0 = true := by
  show abIf (avGe haS0 (afAdd ([], z) ([], -lo))) (avGe haS0 (afSub ([], up) ([], z))) false = true
  have a1 : avGe haS0 (afAdd ([], z) ([], -lo)) = true := haGe (s := haS0) (z := z + -lo) (by omega)
  have a2 : avGe haS0 (afSub ([], up) ([], z)) = true := haGe (s := haS0) (z := up - z) (by omega)
  rw [a1, a2]
  rfl
theorem avH213 {D : va_G} {z sb n : Nat} {tx : Nat → Nat} (hT : abTabs) : avHd1 D z sb (lwG tx n) 213 avC213_0 := by
  refine avHd_of hT (by decide) (by decide +kernel) (haLe5 (by decide +kernel)) ?_
  intro rh ws vs hso hlen hJ hv
  obtain ⟨x0, _, rfl, g0, x1, _, rfl, g1, x2, _, rfl, g2, hnil⟩ := hv
  obtain ⟨d1, y1, rfl, e1⟩ := avGv_i g1 rfl
  obtain ⟨d2, y2, rfl, e2⟩ := avGv_i g2 rfl
  obtain ⟨v1, n1, b1⟩ := haN0 (x := 0) hso (by decide)
  obtain ⟨v2, n2, b2⟩ := haN0 (x := 1) hso (by decide)
  have e1' : y1.toInt = v1 := by rw [e1]; exact afN_V n1
  have e2' : y2.toInt = v2 := by rw [e2]; exact afN_V n2
  have b1' : 0 ≤ v1 ∧ v1 ≤ 5 := b1
  have b2' : 0 ≤ v2 ∧ v2 ≤ 9999 := b2
  refine ⟨[haR 51 860, haI y1.toInt, haI y2.toInt], _, ⟨_, _, rfl, haRto g0, _, _, rfl, haIto, _, _, rfl, haIto, hnil⟩, hm_draws hT (d := 26) (by omega) (by omega) hJ.1.1, ?_⟩
  rintro o mu' ⟨rfl, f1, f2, f3⟩
  exact ⟨⟨lwJp_same hJ.1 (Nat.le_refl _) f1 (by rw [f3]; exact hJ.1.2.1) (fun i hi => f2 862 i (haGd_im hi) (by decide) (by decide) (by decide) (by decide) (by decide)) (fun i hi => f2 863 i (haGd_has hi) (by decide) (by decide) (by decide) (by decide) (by decide)), lwRel_of hJ.2 (fun j i hg hi => f2 j i hg (lwNe hi).1.2.1 (lwNe hi).1.2.2.2.2.2.1 (lwNe hi).1.2.2.2.2.2.2.1 (lwNe hi).1.2.2.2.2.2.2.2 (lwNe hi).1.1)⟩, avKc9⟩
theorem avH239 {D : va_G} {z sb n : Nat} {tx : Nat → Nat} (hT : abTabs) : avHd1 D z sb (lwG tx n) 239 avC239_0 := by
  refine avHd_of hT (by decide) (by decide +kernel) (haLe5 (by decide +kernel)) ?_
  intro rh ws vs hso hlen hJ hv
  obtain ⟨x0, _, rfl, g0, x1, _, rfl, g1, x2, _, rfl, g2, x3, _, rfl, g3, hnil⟩ := hv
  obtain ⟨d1, y1, rfl, e1⟩ := avGv_i g1 rfl
  obtain ⟨d2, y2, rfl, e2⟩ := avGv_i g2 rfl
  obtain ⟨d3, y3, rfl, e3⟩ := avGv_i g3 rfl
  have e3' : y3.toInt = 0 := by rw [e3]; exact haCst rh 0
  refine ⟨[haR 51 860, haI y1.toInt, haI y2.toInt, haI y3.toInt], _, ⟨_, _, rfl, haRto g0, _, _, rfl, haIto, _, _, rfl, haIto, _, _, rfl, haIto, hnil⟩, hm_turns hT 6 (d := 21) y1 y2 y3.toInt (haAt ws) (tbC_6 y1) (by omega) (by omega), ?_⟩
  rintro o mu' ⟨⟨z, rfl, z1, z2⟩, f2⟩
  have f3 : mu' 861 1504 = haAt ws 861 1504 := f2 861 1504 haGd_fills (by decide) (by decide) (by decide)
  exact ⟨⟨lwJp_same hJ.1 (Nat.le_refl _) (haWd_ext hJ.1.1 (fun b b0 b1 => ⟨f2 861 _ (by have := haGd_hold (b := b) (i := 0) ⟨b0, b1⟩ (by omega); rwa [Int.add_zero] at this) (by decide) (by decide) (by decide), f2 861 _ (by have := haGd_hold (b := b) (i := 1) ⟨b0, b1⟩ (by omega); rwa [show 520 + 164 * b + 1 = 521 + 164 * b by omega] at this) (by decide) (by decide) (by decide)⟩) (fun b r c b0 b1 r0 r1 c0 c1 c3 => f2 861 _ (haGd_ring ⟨b0, b1⟩ ⟨r0, r1⟩ ⟨c0, c1⟩ c3) (by decide) (by decide) (by decide))) (by rw [f3]; exact hJ.1.2.1) (fun i hi => f2 862 i (haGd_im hi) (by decide) (by decide) (by decide)) (fun i hi => f2 863 i (haGd_has hi) (by decide) (by decide) (by decide)), lwRel_of hJ.2 (fun j i hg hi => f2 j i hg (lwNe hi).2.1 (lwNe hi).2.2.1 (lwNe hi).1.1)⟩, avKcI z1 z2⟩
theorem avH84 {D : va_G} {z sb n : Nat} {tx : Nat → Nat} (hT : abTabs) : avHd1 D z sb (lwG tx n) 84 avC84_0 := by
  refine avHd_of hT (by decide) (by decide +kernel) (haLe5 (by decide +kernel)) ?_
  intro rh ws vs hso hlen hJ hv
  obtain ⟨x0, _, rfl, g0, x1, _, rfl, g1, x2, _, rfl, g2, hnil⟩ := hv
  obtain ⟨d1, jj, a, en, hj, rfl, er, ej⟩ := avGv_r g1 rfl
  obtain ⟨d2, y2, rfl, e2⟩ := avGv_i g2 rfl
  obtain ⟨v1, n1, b1⟩ := haN0 (x := 0) hso (by decide)
  have e1' : (jj : Int) = v1 := by rw [ej]; exact afN_V n1
  have b1' : 0 ≤ v1 ∧ v1 ≤ 4095 := b1
  refine ⟨[haR 23 817, haR 18 jj, haI y2.toInt], _, ⟨_, _, rfl, haRto g0, _, _, rfl, ⟨afNil_D _, jj, a, en, hj, rfl, er, (haCst _ _).symm⟩, _, _, rfl, haIto, hnil⟩, hm_look hT (d := 23) (by omega) (avI32 y2), ?_⟩
  rintro o mu' ⟨⟨z, rfl, z1, z2⟩, f2⟩
  have f3 : mu' 861 1504 = haAt ws 861 1504 := f2 861 1504 haGd_fills (by decide) (by decide) (by decide) (by decide)
  exact ⟨⟨lwJp_same hJ.1 (Nat.le_refl _) (haWd_ext hJ.1.1 (fun b b0 b1 => ⟨f2 861 _ (by have := haGd_hold (b := b) (i := 0) ⟨b0, b1⟩ (by omega); rwa [Int.add_zero] at this) (by decide) (by decide) (by decide) (by decide), f2 861 _ (by have := haGd_hold (b := b) (i := 1) ⟨b0, b1⟩ (by omega); rwa [show 520 + 164 * b + 1 = 521 + 164 * b by omega] at this) (by decide) (by decide) (by decide) (by decide)⟩) (fun b r c b0 b1 r0 r1 c0 c1 c3 => f2 861 _ (haGd_ring ⟨b0, b1⟩ ⟨r0, r1⟩ ⟨c0, c1⟩ c3) (by decide) (by decide) (by decide) (by decide))) (by rw [f3]; exact hJ.1.2.1) (fun i hi => f2 862 i (haGd_im hi) (by decide) (by decide) (by decide) (by decide)) (fun i hi => f2 863 i (haGd_has hi) (by decide) (by decide) (by decide) (by decide)), lwRel_of hJ.2 (fun j i hg hi => f2 j i hg (lwNe hi).2.2.2.1 (lwNe hi).2.2.2.2.1 (lwNe hi).2.2.2.2.2.1 (lwNe hi).2.2.2.2.2.2)⟩, avKcI z1 z2⟩
