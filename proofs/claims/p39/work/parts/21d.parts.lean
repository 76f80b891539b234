/-! TallBinsModel.parts: the LOT of the greatest rest -/
theorem hm_partsI (hT : abTabs) {x : haCx} {d : Nat} (hF : haF x 215 d) {b r k n m s : Int} {nu : haMu} {w : Int → Int} (hb : 0 ≤ b ∧ b ≤ 5) (hr : 0 ≤ r ∧ r ≤ 11) (hk : k = 540 + 164 * b + 12 * r) (hm : 1 ≤ m ∧ m ≤ 1000)
    (hX : ∀ c : Int, 0 ≤ c → c < 8 → 0 ≤ n * w c ∧ n * w c ≤ 1000000) (hg : ∀ c : Int, 0 ≤ c → c < 8 → nu 861 (k + 4 + c) = w c)
    (hE : ∀ B : Int, ((B = -1 ∧ ∀ c : Int, 0 ≤ c → c < 8 → ¬ nu 869 c = 0) ∨ (0 ≤ B ∧ B < 8 ∧ nu 869 B = 0 ∧ ∀ c : Int, 0 ≤ c → c < 8 → nu 869 c = 0 → n * w c % m ≤ n * w B % m)) → haW x nu 205 [haR 51 860, haI (k), haI (n), haL (m), avJ, haI (s), haI (B), haI (8)] []) : haW x nu 134 [haR 51 860, haI (k), haI (n), haL (m), avJ, haI (s), haI (-1), haI (0)] [] := by
  have loop : ∀ (nn : Nat) (l B : Int), (nn : Int) = 8 - l → 0 ≤ l → ((B = -1 ∧ ∀ c : Int, 0 ≤ c → c < l → ¬ nu 869 c = 0) ∨ (0 ≤ B ∧ B < l ∧ nu 869 B = 0 ∧ ∀ c : Int, 0 ≤ c → c < l → nu 869 c = 0 → n * w c % m ≤ n * w B % m)) → haW x nu 134 [haR 51 860, haI (k), haI (n), haL (m), avJ, haI (s), haI (B), haI (l)] [] := by
    intro nn
    induction nn with
    | zero =>
      intro l B hn h0 hc
      have e : l = 8 := by omega
      subst e
      refine ha_s (pc' := 136) (ls' := [haR 51 860, haI (k), haI (n), haL (m), avJ, haI (s), haI (B), haI (8)]) (st' := [haI (8)]) hF (haEt hT (e := (8, 134, 0, 7, 0, [])) (k := 215) (pc := 134) (by decide) (by decide +kernel) rfl) rfl (fun RG => avS8) (fun nx => rfl) ?_
      refine ha_s (pc' := 138) (ls' := [haR 51 860, haI (k), haI (n), haL (m), avJ, haI (s), haI (B), haI (8)]) (st' := [haI (8), haI (8)]) hF (haEt hT (e := (2, 136, 0, 0, 9223372036854775816, [])) (k := 215) (pc := 136) (by decide) (by decide +kernel) rfl) rfl (fun RG => avS2) (fun nx => rfl) ?_
      exact ha_icge hF (haEt hT (e := (55, 138, 205, 0, 0, [])) (k := 215) (pc := 138) (by decide) (by decide +kernel) rfl) rfl rfl rfl (fun _ => hE B hc) (fun q => by omega)
    | succ nn ih =>
      intro l B hn h0 hc
      refine ha_s (pc' := 136) (ls' := [haR 51 860, haI (k), haI (n), haL (m), avJ, haI (s), haI (B), haI (l)]) (st' := [haI (l)]) hF (haEt hT (e := (8, 134, 0, 7, 0, [])) (k := 215) (pc := 134) (by decide) (by decide +kernel) rfl) rfl (fun RG => avS8) (fun nx => rfl) ?_
      refine ha_s (pc' := 138) (ls' := [haR 51 860, haI (k), haI (n), haL (m), avJ, haI (s), haI (B), haI (l)]) (st' := [haI (8), haI (l)]) hF (haEt hT (e := (2, 136, 0, 0, 9223372036854775816, [])) (k := 215) (pc := 136) (by decide) (by decide +kernel) rfl) rfl (fun RG => avS2) (fun nx => rfl) ?_
      refine ha_icge hF (haEt hT (e := (55, 138, 205, 0, 0, [])) (k := 215) (pc := 138) (by decide) (by decide +kernel) rfl) rfl rfl rfl (fun q => by omega) (fun _ => ?_)
      refine ha_s (pc' := 142) (ls' := [haR 51 860, haI (k), haI (n), haL (m), avJ, haI (s), haI (B), haI (l)]) (st' := [haR 51 860]) hF (haEt hT (e := (13, 141, 0, 0, 0, [])) (k := 215) (pc := 141) (by decide) (by decide +kernel) rfl) rfl (fun RG => avS13) (fun nx => rfl) ?_
      refine ha_getR (r := 51) (j := 860) (i := 17) (r' := 58) (j' := 869) hF (haEt hT (e := (60, 142, 12, 17, 43, [1360])) (k := 215) (pc := 142) (by decide) (by decide +kernel) rfl) rfl rfl rfl (by decide +kernel) (by decide) (by decide +kernel) (by rfl) ?_
      refine ha_s (pc' := 147) (ls' := [haR 51 860, haI (k), haI (n), haL (m), avJ, haI (s), haI (B), haI (l)]) (st' := [haI (l), haR 58 869]) hF (haEt hT (e := (8, 145, 0, 7, 0, [])) (k := 215) (pc := 145) (by decide) (by decide +kernel) rfl) rfl (fun RG => avS8) (fun nx => rfl) ?_
      refine ha_bald (r := 58) hF (haEt hT (e := (65, 147, 0, 0, 0, [])) (k := 215) (pc := 147) (by decide) (by decide +kernel) rfl) rfl rfl (by decide +kernel) (by omega) (by show _ < (8 : Int); omega) ?_
      refine ha_ifne hF (haEt hT (e := (47, 148, 199, 0, 0, [])) (k := 215) (pc := 148) (by decide) (by decide +kernel) rfl) rfl rfl rfl (fun q => ?_) (fun q => ?_)
      · refine ha_iinc (i := 7) (c := 1) hF (haEt hT (e := (20, 199, 0, 7, 9223372036854775809, [])) (k := 215) (pc := 199) (by decide) (by decide +kernel) rfl) rfl rfl rfl rfl rfl (by omega) (by omega) ?_
        show haW _ _ 202 [haR 51 860, haI (k), haI (n), haL (m), avJ, haI (s), haI (B), haI (l + 1)] []
        refine ha_s (pc' := 134) (ls' := [haR 51 860, haI (k), haI (n), haL (m), avJ, haI (s), haI (B), haI (l + 1)]) (st' := []) hF (haEt hT (e := (58, 202, 134, 0, 0, [])) (k := 215) (pc := 202) (by decide) (by decide +kernel) rfl) rfl (fun RG => avS58) (fun nx => rfl) ?_
        refine ih (l + 1) B (by omega) (by omega) ?_
        rcases hc with ⟨c1, c2⟩ | ⟨c1, c2, c3, c4⟩
        · refine Or.inl ⟨c1, fun c g0 g1 => ?_⟩
          by_cases e : c = l
          · rw [e]; exact q
          · exact c2 c g0 (by omega)
        · refine Or.inr ⟨c1, by omega, c3, fun c g0 g1 g2 => ?_⟩
          by_cases e : c = l
          · rw [e] at g2; exact absurd g2 q
          · exact c4 c g0 (by omega) g2
      · refine ha_s (pc' := 153) (ls' := [haR 51 860, haI (k), haI (n), haL (m), avJ, haI (s), haI (B), haI (l)]) (st' := [haI (B)]) hF (haEt hT (e := (8, 151, 0, 6, 0, [])) (k := 215) (pc := 151) (by decide) (by decide +kernel) rfl) rfl (fun RG => avS8) (fun nx => rfl) ?_
        refine ha_s (pc' := 154) (ls' := [haR 51 860, haI (k), haI (n), haL (m), avJ, haI (s), haI (B), haI (l)]) (st' := [haI (-1), haI (B)]) hF (haEt hT (e := (1, 153, 0, 0, 9223372036854775807, [])) (k := 215) (pc := 153) (by decide) (by decide +kernel) rfl) rfl (fun RG => avS1) (fun nx => rfl) ?_
        refine ha_iceq hF (haEt hT (e := (52, 154, 195, 0, 0, [])) (k := 215) (pc := 154) (by decide) (by decide +kernel) rfl) rfl rfl rfl (fun q2 => ?_) (fun q2 => ?_)
        · refine ha_s (pc' := 197) (ls' := [haR 51 860, haI (k), haI (n), haL (m), avJ, haI (s), haI (B), haI (l)]) (st' := [haI (l)]) hF (haEt hT (e := (8, 195, 0, 7, 0, [])) (k := 215) (pc := 195) (by decide) (by decide +kernel) rfl) rfl (fun RG => avS8) (fun nx => rfl) ?_
          refine ha_s (pc' := 199) (ls' := [haR 51 860, haI (k), haI (n), haL (m), avJ, haI (s), haI (l), haI (l)]) (st' := []) hF (haEt hT (e := (14, 197, 0, 6, 0, [])) (k := 215) (pc := 197) (by decide) (by decide +kernel) rfl) rfl (fun RG => avS14) (fun nx => rfl) ?_
          refine ha_iinc (i := 7) (c := 1) hF (haEt hT (e := (20, 199, 0, 7, 9223372036854775809, [])) (k := 215) (pc := 199) (by decide) (by decide +kernel) rfl) rfl rfl rfl rfl rfl (by omega) (by omega) ?_
          show haW _ _ 202 [haR 51 860, haI (k), haI (n), haL (m), avJ, haI (s), haI (l), haI (l + 1)] []
          refine ha_s (pc' := 134) (ls' := [haR 51 860, haI (k), haI (n), haL (m), avJ, haI (s), haI (l), haI (l + 1)]) (st' := []) hF (haEt hT (e := (58, 202, 134, 0, 0, [])) (k := 215) (pc := 202) (by decide) (by decide +kernel) rfl) rfl (fun RG => avS58) (fun nx => rfl) ?_
          refine ih (l + 1) l (by omega) (by omega) (Or.inr ⟨h0, by omega, q, fun c g0 g1 g2 => ?_⟩)
          rcases hc with ⟨c1, c2⟩ | ⟨c1, c2, c3, c4⟩
          · by_cases e : c = l
            · rw [e]; exact Int.le_refl _
            · exact absurd g2 (c2 c g0 (by omega))
          · omega
        · rcases hc with ⟨c1, c2⟩ | ⟨c1, c2, c3, c4⟩
          · omega
          · refine ha_s (pc' := 158) (ls' := [haR 51 860, haI (k), haI (n), haL (m), avJ, haI (s), haI (B), haI (l)]) (st' := [haI (n)]) hF (haEt hT (e := (9, 157, 0, 2, 0, [])) (k := 215) (pc := 157) (by decide) (by decide +kernel) rfl) rfl (fun RG => avS9) (fun nx => rfl) ?_
            refine ha_s (pc' := 159) (ls' := [haR 51 860, haI (k), haI (n), haL (m), avJ, haI (s), haI (B), haI (l)]) (st' := [haL (n)]) hF (haEt hT (e := (40, 158, 0, 0, 0, [])) (k := 215) (pc := 158) (by decide) (by decide +kernel) rfl) rfl (fun RG => avS40) (fun nx => rfl) ?_
            refine ha_s (pc' := 160) (ls' := [haR 51 860, haI (k), haI (n), haL (m), avJ, haI (s), haI (B), haI (l)]) (st' := [haR 51 860, haL (n)]) hF (haEt hT (e := (13, 159, 0, 0, 0, [])) (k := 215) (pc := 159) (by decide) (by decide +kernel) rfl) rfl (fun RG => avS13) (fun nx => rfl) ?_
            refine ha_getR (r := 51) (j := 860) (i := 1) (r' := 77) (j' := 861) hF (haEt hT (e := (60, 160, 12, 1, 13, [1344])) (k := 215) (pc := 160) (by decide) (by decide +kernel) rfl) rfl rfl rfl (by decide +kernel) (by decide) (by decide +kernel) (by rfl) ?_
            refine ha_s (pc' := 164) (ls' := [haR 51 860, haI (k), haI (n), haL (m), avJ, haI (s), haI (B), haI (l)]) (st' := [haI (k), haR 77 861, haL (n)]) hF (haEt hT (e := (9, 163, 0, 1, 0, [])) (k := 215) (pc := 163) (by decide) (by decide +kernel) rfl) rfl (fun RG => avS9) (fun nx => rfl) ?_
            refine ha_s (pc' := 165) (ls' := [haR 51 860, haI (k), haI (n), haL (m), avJ, haI (s), haI (B), haI (l)]) (st' := [haI (4), haI (k), haR 77 861, haL (n)]) hF (haEt hT (e := (1, 164, 0, 0, 9223372036854775812, [])) (k := 215) (pc := 164) (by decide) (by decide +kernel) rfl) rfl (fun RG => avS1) (fun nx => rfl) ?_
            refine ha_iadd hF (haEt hT (e := (21, 165, 0, 0, 0, [])) (k := 215) (pc := 165) (by decide) (by decide +kernel) rfl) rfl rfl (by omega) (by omega) ?_
            refine ha_s (pc' := 168) (ls' := [haR 51 860, haI (k), haI (n), haL (m), avJ, haI (s), haI (B), haI (l)]) (st' := [haI (l), haI (k + (4)), haR 77 861, haL (n)]) hF (haEt hT (e := (8, 166, 0, 7, 0, [])) (k := 215) (pc := 166) (by decide) (by decide +kernel) rfl) rfl (fun RG => avS8) (fun nx => rfl) ?_
            refine ha_iadd hF (haEt hT (e := (21, 168, 0, 0, 0, [])) (k := 215) (pc := 168) (by decide) (by decide +kernel) rfl) rfl rfl (by omega) (by omega) ?_
            refine ha_iald (r := 77) hF (haEt hT (e := (64, 169, 0, 0, 0, [])) (k := 215) (pc := 169) (by decide) (by decide +kernel) rfl) rfl rfl (by decide +kernel) (by omega) (by show _ < (1745 : Int); omega) ?_
            rw [hg (l) (by omega) (by omega)]
            refine ha_s (pc' := 171) (ls' := [haR 51 860, haI (k), haI (n), haL (m), avJ, haI (s), haI (B), haI (l)]) (st' := [haL (w (l)), haL (n)]) hF (haEt hT (e := (40, 170, 0, 0, 0, [])) (k := 215) (pc := 170) (by decide) (by decide +kernel) rfl) rfl (fun RG => avS40) (fun nx => rfl) ?_
            refine ha_lmul hF (haEt hT (e := (34, 171, 0, 0, 0, [])) (k := 215) (pc := 171) (by decide) (by decide +kernel) rfl) rfl rfl (by have := hX (l) (by omega) (by omega); omega) (by have := hX (l) (by omega) (by omega); omega) ?_
            refine ha_s (pc' := 173) (ls' := [haR 51 860, haI (k), haI (n), haL (m), avJ, haI (s), haI (B), haI (l)]) (st' := [haL (m), haL ((n) * (w (l)))]) hF (haEt hT (e := (11, 172, 0, 3, 0, [])) (k := 215) (pc := 172) (by decide) (by decide +kernel) rfl) rfl (fun RG => avS11) (fun nx => rfl) ?_
            refine ha_lrem hF (by decide +kernel) (by have := hX (l) (by omega) (by omega); omega) (by omega) ?_
            refine ha_s (pc' := 175) (ls' := [haR 51 860, haI (k), haI (n), haL (m), avJ, haI (s), haI (B), haI (l)]) (st' := [haI (n), haL (((n) * (w (l))) % (m))]) hF (haEt hT (e := (9, 174, 0, 2, 0, [])) (k := 215) (pc := 174) (by decide) (by decide +kernel) rfl) rfl (fun RG => avS9) (fun nx => rfl) ?_
            refine ha_s (pc' := 176) (ls' := [haR 51 860, haI (k), haI (n), haL (m), avJ, haI (s), haI (B), haI (l)]) (st' := [haL (n), haL (((n) * (w (l))) % (m))]) hF (haEt hT (e := (40, 175, 0, 0, 0, [])) (k := 215) (pc := 175) (by decide) (by decide +kernel) rfl) rfl (fun RG => avS40) (fun nx => rfl) ?_
            refine ha_s (pc' := 177) (ls' := [haR 51 860, haI (k), haI (n), haL (m), avJ, haI (s), haI (B), haI (l)]) (st' := [haR 51 860, haL (n), haL (((n) * (w (l))) % (m))]) hF (haEt hT (e := (13, 176, 0, 0, 0, [])) (k := 215) (pc := 176) (by decide) (by decide +kernel) rfl) rfl (fun RG => avS13) (fun nx => rfl) ?_
            refine ha_getR (r := 51) (j := 860) (i := 1) (r' := 77) (j' := 861) hF (haEt hT (e := (60, 177, 12, 1, 13, [1344])) (k := 215) (pc := 177) (by decide) (by decide +kernel) rfl) rfl rfl rfl (by decide +kernel) (by decide) (by decide +kernel) (by rfl) ?_
            refine ha_s (pc' := 181) (ls' := [haR 51 860, haI (k), haI (n), haL (m), avJ, haI (s), haI (B), haI (l)]) (st' := [haI (k), haR 77 861, haL (n), haL (((n) * (w (l))) % (m))]) hF (haEt hT (e := (9, 180, 0, 1, 0, [])) (k := 215) (pc := 180) (by decide) (by decide +kernel) rfl) rfl (fun RG => avS9) (fun nx => rfl) ?_
            refine ha_s (pc' := 182) (ls' := [haR 51 860, haI (k), haI (n), haL (m), avJ, haI (s), haI (B), haI (l)]) (st' := [haI (4), haI (k), haR 77 861, haL (n), haL (((n) * (w (l))) % (m))]) hF (haEt hT (e := (1, 181, 0, 0, 9223372036854775812, [])) (k := 215) (pc := 181) (by decide) (by decide +kernel) rfl) rfl (fun RG => avS1) (fun nx => rfl) ?_
            refine ha_iadd hF (haEt hT (e := (21, 182, 0, 0, 0, [])) (k := 215) (pc := 182) (by decide) (by decide +kernel) rfl) rfl rfl (by omega) (by omega) ?_
            refine ha_s (pc' := 185) (ls' := [haR 51 860, haI (k), haI (n), haL (m), avJ, haI (s), haI (B), haI (l)]) (st' := [haI (B), haI (k + (4)), haR 77 861, haL (n), haL (((n) * (w (l))) % (m))]) hF (haEt hT (e := (8, 183, 0, 6, 0, [])) (k := 215) (pc := 183) (by decide) (by decide +kernel) rfl) rfl (fun RG => avS8) (fun nx => rfl) ?_
            refine ha_iadd hF (haEt hT (e := (21, 185, 0, 0, 0, [])) (k := 215) (pc := 185) (by decide) (by decide +kernel) rfl) rfl rfl (by omega) (by omega) ?_
            refine ha_iald (r := 77) hF (haEt hT (e := (64, 186, 0, 0, 0, [])) (k := 215) (pc := 186) (by decide) (by decide +kernel) rfl) rfl rfl (by decide +kernel) (by omega) (by show _ < (1745 : Int); omega) ?_
            rw [hg (B) (by omega) (by omega)]
            refine ha_s (pc' := 188) (ls' := [haR 51 860, haI (k), haI (n), haL (m), avJ, haI (s), haI (B), haI (l)]) (st' := [haL (w (B)), haL (n), haL (((n) * (w (l))) % (m))]) hF (haEt hT (e := (40, 187, 0, 0, 0, [])) (k := 215) (pc := 187) (by decide) (by decide +kernel) rfl) rfl (fun RG => avS40) (fun nx => rfl) ?_
            refine ha_lmul hF (haEt hT (e := (34, 188, 0, 0, 0, [])) (k := 215) (pc := 188) (by decide) (by decide +kernel) rfl) rfl rfl (by have := hX (B) (by omega) (by omega); omega) (by have := hX (B) (by omega) (by omega); omega) ?_
            refine ha_s (pc' := 190) (ls' := [haR 51 860, haI (k), haI (n), haL (m), avJ, haI (s), haI (B), haI (l)]) (st' := [haL (m), haL ((n) * (w (B))), haL (((n) * (w (l))) % (m))]) hF (haEt hT (e := (11, 189, 0, 3, 0, [])) (k := 215) (pc := 189) (by decide) (by decide +kernel) rfl) rfl (fun RG => avS11) (fun nx => rfl) ?_
            refine ha_lrem hF (by decide +kernel) (by have := hX (B) (by omega) (by omega); omega) (by omega) ?_
            refine ha_s (pc' := 192) (ls' := [haR 51 860, haI (k), haI (n), haL (m), avJ, haI (s), haI (B), haI (l)]) (st' := [haC (((n) * (w (l))) % (m) - (((n) * (w (B))) % (m)))]) hF (haEt hT (e := (43, 191, 0, 0, 0, [])) (k := 215) (pc := 191) (by decide) (by decide +kernel) rfl) rfl (fun RG => avS43) (fun nx => rfl) ?_
            refine ha_cle hF (haEt hT (e := (51, 192, 199, 0, 0, [])) (k := 215) (pc := 192) (by decide) (by decide +kernel) rfl) rfl rfl rfl (fun q3 => ?_) (fun q3 => ?_)
            · refine ha_iinc (i := 7) (c := 1) hF (haEt hT (e := (20, 199, 0, 7, 9223372036854775809, [])) (k := 215) (pc := 199) (by decide) (by decide +kernel) rfl) rfl rfl rfl rfl rfl (by omega) (by omega) ?_
              show haW _ _ 202 [haR 51 860, haI (k), haI (n), haL (m), avJ, haI (s), haI (B), haI (l + 1)] []
              refine ha_s (pc' := 134) (ls' := [haR 51 860, haI (k), haI (n), haL (m), avJ, haI (s), haI (B), haI (l + 1)]) (st' := []) hF (haEt hT (e := (58, 202, 134, 0, 0, [])) (k := 215) (pc := 202) (by decide) (by decide +kernel) rfl) rfl (fun RG => avS58) (fun nx => rfl) ?_
              refine ih (l + 1) B (by omega) (by omega) (Or.inr ⟨c1, by omega, c3, fun c g0 g1 g2 => ?_⟩)
              by_cases e : c = l
              · rw [e]; omega
              · exact c4 c g0 (by omega) g2
            · refine ha_s (pc' := 197) (ls' := [haR 51 860, haI (k), haI (n), haL (m), avJ, haI (s), haI (B), haI (l)]) (st' := [haI (l)]) hF (haEt hT (e := (8, 195, 0, 7, 0, [])) (k := 215) (pc := 195) (by decide) (by decide +kernel) rfl) rfl (fun RG => avS8) (fun nx => rfl) ?_
              refine ha_s (pc' := 199) (ls' := [haR 51 860, haI (k), haI (n), haL (m), avJ, haI (s), haI (l), haI (l)]) (st' := []) hF (haEt hT (e := (14, 197, 0, 6, 0, [])) (k := 215) (pc := 197) (by decide) (by decide +kernel) rfl) rfl (fun RG => avS14) (fun nx => rfl) ?_
              refine ha_iinc (i := 7) (c := 1) hF (haEt hT (e := (20, 199, 0, 7, 9223372036854775809, [])) (k := 215) (pc := 199) (by decide) (by decide +kernel) rfl) rfl rfl rfl rfl rfl (by omega) (by omega) ?_
              show haW _ _ 202 [haR 51 860, haI (k), haI (n), haL (m), avJ, haI (s), haI (l), haI (l + 1)] []
              refine ha_s (pc' := 134) (ls' := [haR 51 860, haI (k), haI (n), haL (m), avJ, haI (s), haI (l), haI (l + 1)]) (st' := []) hF (haEt hT (e := (58, 202, 134, 0, 0, [])) (k := 215) (pc := 202) (by decide) (by decide +kernel) rfl) rfl (fun RG => avS58) (fun nx => rfl) ?_
              refine ih (l + 1) l (by omega) (by omega) (Or.inr ⟨h0, by omega, q, fun c g0 g1 g2 => ?_⟩)
              by_cases e : c = l
              · rw [e]; exact Int.le_refl _
              · have := c4 c g0 (by omega) g2
                omega
  exact loop 8 0 (-1) rfl (Int.le_refl 0) (Or.inl ⟨rfl, fun c c0 c1 => by omega⟩)
