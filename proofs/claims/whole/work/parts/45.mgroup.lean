set_option maxRecDepth 100000 in
set_option maxHeartbeats 4000000 in
theorem cg_end {M N : dM} {R : pM} {n0 c g : Nat} {m b : Int32} {w5 w6 w7 w8 w9 : Option Value} (hc : c < 24) (hg : g < 4) (hG : GO N g) (hb : b = -1 ∨ ∃ q, q < grN N g ∧ b = nI q) : PW kX5_callGroup false n0 (fun v m9 => v = none ∧ m9 = SM M ++ (MM (g_cgEnd N c g m b) ++ R)) (fun _ _ => False) 212 [some (.ref 44), some (.int (nI c)), some (.int (nI g)), some (.int m), some (.int b), w5, w6, w7, w8, w9] [] (SM M ++ (MM N ++ R)) 0 0 := by
  refine PW.iload dX5_callGroup_212 rfl ?_
  refine PW.if_ge (tgt := 237) dX5_callGroup_214 (by decide) (fun h214 => ?_) (fun h214 => ?_)
  · have hb0 : ¬ b < 0 := Int32.not_lt.mpr h214
    obtain ⟨q, hq, eq⟩ : ∃ q, q < grN N g ∧ b = nI q := hb.resolve_left (fun z => by rw [z] at h214; exact absurd h214 (by decide))
    have h6 := hG.2.1
    obtain ⟨el, hl⟩ := hG.2.2.1 q hq
    refine PW.aload_n (i := 0) dX5_callGroup_237 rfl rfl ?_
    refine PW.getf FX5_callGroup_65 dX5_callGroup_238 sm_mod rfl ?_
    refine PW.iload_n (i := 2) dX5_callGroup_241 rfl rfl ?_
    refine PW.iload dX5_callGroup_242 rfl ?_
    refine PW.iast dX5_callGroup_244 ma_taken rfl (Nat.lt_trans hg (by decide)) (by rw [maF_len]; exact hg)  (pm_taken hg) ?_
    refine PW.aload_n (i := 0) dX5_callGroup_245 rfl rfl ?_
    refine PW.getf FX5_callGroup_62 dX5_callGroup_246 sm_mod rfl ?_
    refine PW.iload_n (i := 2) dX5_callGroup_249 rfl rfl ?_
    refine PW.iald dX5_callGroup_250 ma_orders rfl (Nat.lt_trans hg (by decide)) (mg_orders hg) ?_
    refine PW.iconst (v := 3) dX5_callGroup_251 (by decide) ?_
    refine PW.icmp_ne (tgt := 256) dX5_callGroup_252 (by decide) (fun h252 => ?_) (fun h252 => ?_)
    · refine PW.aload_n (i := 0) dX5_callGroup_256 rfl rfl ?_
      refine PW.getf FX5_callGroup_56 dX5_callGroup_257 sm_mod rfl ?_
      refine PW.bipush (v := 6) dX5_callGroup_260 (by decide) ?_
      refine PW.iload_n (i := 2) dX5_callGroup_262 rfl rfl ?_
      refine PW.imul dX5_callGroup_263 ?_
      refine PW.iload dX5_callGroup_264 rfl ?_
      refine PW.iadd dX5_callGroup_266 ?_
      refine PW.iald dX5_callGroup_267 ma_members (by rw [eq]; exact ix6 g q) (by omega) (mg_members hg (by omega)) ?_
      rw [show up2 N (28 + g) 3 b (32 + g) q = nI (mb N g q) by rw [up2_r (by omega)]; exact el]
      refine PW.istore dX5_callGroup_268 (by decide) rfl ?_
      refine PW.aload_n (i := 0) dX5_callGroup_270 rfl rfl ?_
      refine PW.iload_n (i := 1) dX5_callGroup_271 rfl rfl ?_
      refine PW.iload dX5_callGroup_272 rfl ?_
      refine PW.aload_n (i := 0) dX5_callGroup_274 rfl rfl ?_
      refine PW.iload_n (i := 1) dX5_callGroup_275 rfl rfl ?_
      refine PW.iload dX5_callGroup_276 rfl ?_
      refine PW.callV (k := kX5_callGroup) (n := 2) (c5_take hc hl) dX5_callGroup_278 gX5_callGroup_X5_take rfl hd_X5_take rfl ⟨by decide, by decide⟩ ⟨rfl, rfl⟩ (Nat.le_of_ble_eq_true rfl) ⟨by decide, by decide⟩ sm_mod (by decide) rfl rfl (fun v m9 hp => ?_) (fun _ _ hx => hx.elim)
      obtain ⟨rfl, rfl⟩ := hp
      refine PW.callV (k := kX5_callGroup) (n := 3) (c5_ring hc hl _) dX5_callGroup_281 gX5_callGroup_X5_ring rfl hd_X5_ring rfl ⟨by decide, by decide⟩ ⟨rfl, rfl⟩ (Nat.le_of_ble_eq_true rfl) ⟨by decide, by decide⟩ sm_mod (by decide) rfl rfl (fun v m9 hp => ?_) (fun _ _ hx => hx.elim)
      obtain ⟨rfl, rfl⟩ := hp
      exact PW.vret dX5_callGroup_284 rfl ⟨rfl, by rw [g_cgEnd, if_neg hb0, if_neg h252, show b.toNatClampNeg = q by rw [eq, nI_clamp (by omega)], show mb (up2 N (28 + g) 3 b) g q = mb N g q by unfold mb; rw [up2_r (by omega)]]⟩ (by decide) (by decide)
    · exact PW.vret dX5_callGroup_255 rfl ⟨rfl, by rw [g_cgEnd, if_neg hb0, if_pos h252]⟩ (by decide) (by decide)
  · refine PW.iload_n (i := 3) dX5_callGroup_217 rfl rfl ?_
    refine PW.if_eq (tgt := 231) dX5_callGroup_218 (by decide) (fun h218 => ?_) (fun h218 => ?_)
    · refine PW.aload_n (i := 0) dX5_callGroup_231 rfl rfl ?_
      refine PW.iload_n (i := 1) dX5_callGroup_232 rfl rfl ?_
      refine PW.callV (k := kX5_callGroup) (n := 1) (c5_busy hc) dX5_callGroup_233 gX5_callGroup_X5_busy rfl hd_X5_busy rfl ⟨by decide, by decide⟩ ⟨rfl, rfl⟩ (Nat.le_of_ble_eq_true rfl) ⟨by decide, by decide⟩ sm_mod (by decide) rfl rfl (fun v m9 hp => ?_) (fun _ _ hx => hx.elim)
      obtain ⟨rfl, rfl⟩ := hp
      first | exact PW.vret dX5_callGroup_236 rfl ⟨rfl, by rw [g_cgEnd, if_pos (Int32.not_le.mp h214), if_pos h218]⟩ (by decide) (by decide) | exact PW.vret dX5_callGroup_236 rfl ⟨rfl, by rw [g_cgEnd, if_pos (Int32.not_le.mp h214), if_neg h218]⟩ (by decide) (by decide)
    · refine PW.aload_n (i := 0) dX5_callGroup_221 rfl rfl ?_
      refine PW.dup dX5_callGroup_222 rfl ?_
      refine PW.getf FX5_callGroup_123 dX5_callGroup_223 sm_mod rfl ?_
      refine PW.iconst (v := 1) dX5_callGroup_226 (by decide) ?_
      refine PW.iadd dX5_callGroup_227 ?_
      refine PW.putf FX5_callGroup_123 (Fw_5_22 _) dX5_callGroup_228 sm_mod (Nat.le_of_ble_eq_true rfl) (fun _ => rfl) (fun _ => rfl) pm_blocked ?_
      refine PW.aload_n (i := 0) dX5_callGroup_231 rfl rfl ?_
      refine PW.iload_n (i := 1) dX5_callGroup_232 rfl rfl ?_
      refine PW.callV (k := kX5_callGroup) (n := 1) (c5_busy hc) dX5_callGroup_233 gX5_callGroup_X5_busy rfl hd_X5_busy rfl ⟨by decide, by decide⟩ ⟨rfl, rfl⟩ (Nat.le_of_ble_eq_true rfl) ⟨by decide, by decide⟩ sm_mod (by decide) rfl rfl (fun v m9 hp => ?_) (fun _ _ hx => hx.elim)
      obtain ⟨rfl, rfl⟩ := hp
      first | exact PW.vret dX5_callGroup_236 rfl ⟨rfl, by rw [g_cgEnd, if_pos (Int32.not_le.mp h214), if_pos h218]⟩ (by decide) (by decide) | exact PW.vret dX5_callGroup_236 rfl ⟨rfl, by rw [g_cgEnd, if_pos (Int32.not_le.mp h214), if_neg h218]⟩ (by decide) (by decide)
theorem rg_row {N : dM} {c l r : Nat} {s : Int32} (h1 : r ≠ l) (h2 : r ≠ c) (h3 : r ≠ 39) : g_ring N c l s r = N r := by
  have e : g_rg3 N c l s r = N r := by
    funext j
    unfold g_rg3
    rw [up2_r h3, EX.rg2 r j h1]
  unfold g_ring
  split
  · exact e
  · funext j
    rw [EX.bec r j h2, e]
theorem GO.ring {N : dM} {c l g : Nat} {s : Int32} (h : GO N g) (hc : c < 24) (hl : l < 24) (hg : g < 4) : GO (g_ring (f_take N c l) c l s) g :=
  h.to (by rw [rg_row (by omega) (by omega) (by omega), take_row hc hl (by omega)]) (by rw [rg_row (by omega) (by omega) (by omega), take_row hc hl (by omega)])
theorem grN_rg {N : dM} {c l g : Nat} {s : Int32} (hc : c < 24) (hl : l < 24) (hg : g < 4) : grN (g_ring (f_take N c l) c l s) g = grN N g := by
  unfold grN
  rw [rg_row (by omega) (by omega) (by omega), take_row hc hl (by omega)]
set_option maxRecDepth 100000 in
set_option maxHeartbeats 8000000 in
theorem cg_body {M N : dM} {R : pM} {n0 c g n s i : Nat} {m b : Int32} {w6 w7 w8 w9 : Option Value} {fin : dM × Int32 × Int32} (hc : c < 24) (hg : g < 4) (ih : ∀ (N' : dM) (m' b' : Int32) (w6 w7 w8 w9 : Option Value), s + 1 + n = grN N' g → GO N' g → (m' = 0 ∨ m' = 1) → (b' = -1 ∨ ∃ q, q < grN N' g ∧ b' = nI q) → cgL c g n (s + 1) N' m' b' = fin → PW kX5_callGroup false n0 (fun v m9 => v = none ∧ m9 = SM M ++ (MM (g_cgEnd fin.1 c g fin.2.1 fin.2.2) ++ R)) (fun _ _ => False) 8 [some (.ref 44), some (.int (nI c)), some (.int (nI g)), some (.int m'), some (.int b'), some (.int (nI (s + 1))), w6, w7, w8, w9] [] (SM M ++ (MM N' ++ R)) 0 0) (hs : s + (n + 1) = grN N g) (hG : GO N g) (hm : m = 0 ∨ m = 1) (hb : b = -1 ∨ ∃ q, q < grN N g ∧ b = nI q) (hr : cgL c g (n + 1) s N m b = fin) (ei : gi N g s = i) (hi : i < grN N g) : PW kX5_callGroup false n0 (fun v m9 => v = none ∧ m9 = SM M ++ (MM (g_cgEnd fin.1 c g fin.2.1 fin.2.2) ++ R)) (fun _ _ => False) 52 [some (.ref 44), some (.int (nI c)), some (.int (nI g)), some (.int m), some (.int b), some (.int (nI s)), w6, w7, w8, w9] [.int (nI i)] (SM M ++ (MM N ++ R)) 0 0 := by
  have h6 := hG.2.1
  obtain ⟨el, hl⟩ := hG.2.2.1 i hi
  rcases hm with rfl | rfl
  · skip
    refine PW.istore dX5_callGroup_52 (by decide) rfl ?_
    refine PW.aload_n (i := 0) dX5_callGroup_54 rfl rfl ?_
    refine PW.getf FX5_callGroup_56 dX5_callGroup_55 sm_mod rfl ?_
    refine PW.bipush (v := 6) dX5_callGroup_58 (by decide) ?_
    refine PW.iload_n (i := 2) dX5_callGroup_60 rfl rfl ?_
    refine PW.imul dX5_callGroup_61 ?_
    refine PW.iload dX5_callGroup_62 rfl ?_
    refine PW.iadd dX5_callGroup_64 ?_
    refine PW.iald dX5_callGroup_65 ma_members (ix6 g i) (by omega) (mg_members hg (by omega)) ?_
    rw [el]
    refine PW.istore dX5_callGroup_66 (by decide) rfl ?_
    refine PW.aload_n (i := 0) dX5_callGroup_68 rfl rfl ?_
    refine PW.iload_n (i := 1) dX5_callGroup_69 rfl rfl ?_
    refine PW.iload dX5_callGroup_70 rfl ?_
    refine PW.callV (k := kX5_callGroup) (n := 2) (c5_mayRing hc hl) dX5_callGroup_72 gX5_callGroup_X5_mayRing rfl hd_X5_mayRing rfl ⟨by decide, by decide⟩ ⟨rfl, rfl⟩ (Nat.le_of_ble_eq_true rfl) ⟨by decide, by decide⟩ sm_mod (by decide) rfl rfl (fun v m9 hp => ?_) (fun _ _ hx => hx.elim)
    obtain ⟨rfl, rfl⟩ := hp
    refine PW.if_eq (tgt := 206) dX5_callGroup_75 (by decide) (fun h75 => ?_) (fun h75 => ?_)
    · refine PW.iinc (v := nI (s + 1)) dX5_callGroup_206 rfl (nI_1 s) (by decide) rfl ?_
      refine PW.goto (tgt := 8) dX5_callGroup_209 (by decide) ?_
      exact ih N _ _ _ _ _ _ (by omega) hG (Or.inl rfl) hb (by rw [← hr, cgL, ei, if_neg (by rw [b2i_z h75]; decide)])
    · refine PW.aload_n (i := 0) dX5_callGroup_78 rfl rfl ?_
      refine PW.iload_n (i := 1) dX5_callGroup_79 rfl rfl ?_
      refine PW.iload dX5_callGroup_80 rfl ?_
      refine PW.callV (k := kX5_callGroup) (n := 2) (c5_free hc hl) dX5_callGroup_82 gX5_callGroup_X5_free rfl hd_X5_free rfl ⟨by decide, by decide⟩ ⟨rfl, rfl⟩ (Nat.le_of_ble_eq_true rfl) ⟨by decide, by decide⟩ sm_mod (by decide) rfl rfl (fun v m9 hp => ?_) (fun _ _ hx => hx.elim)
      obtain ⟨rfl, rfl⟩ := hp
      refine PW.istore dX5_callGroup_85 (by decide) rfl ?_
      refine PW.iload_n (i := 3) dX5_callGroup_87 rfl rfl ?_
      refine PW.if_ne (tgt := 96) dX5_callGroup_88 (by decide) (fun h88 => absurd h88 (by decide)) (fun _ => ?_)
      refine PW.iload dX5_callGroup_91 rfl ?_
      refine PW.if_ge (tgt := 100) dX5_callGroup_93 (by decide) (fun h93 => ?_) (fun h93 => ?_)
      · refine PW.iconst (v := 0) dX5_callGroup_100 (by decide) ?_
        refine PW.istore_n (i := 3) dX5_callGroup_101 rfl (by decide) rfl ?_
        have hf : ¬ f_free N c (mb N g i) < 0 := Int32.not_lt.mpr h93
        refine PW.iload dX5_callGroup_102 rfl ?_
        refine PW.if_lt (tgt := 138) dX5_callGroup_104 (by decide) (fun h104 => absurd h104 hf) (fun _ => ?_)
        refine PW.aload_n (i := 0) dX5_callGroup_107 rfl rfl ?_
        refine PW.getf FX5_callGroup_62 dX5_callGroup_108 sm_mod rfl ?_
        refine PW.iload_n (i := 2) dX5_callGroup_111 rfl rfl ?_
        refine PW.iald dX5_callGroup_112 ma_orders rfl (Nat.lt_trans hg (by decide)) (mg_orders hg) ?_
        refine PW.iconst (v := 3) dX5_callGroup_113 (by decide) ?_
        refine PW.icmp_ne (tgt := 138) dX5_callGroup_114 (by decide) (fun h114 => ?_) (fun h114 => ?_)
        · refine PW.iload dX5_callGroup_138 rfl ?_
          refine PW.if_lt (tgt := 206) dX5_callGroup_140 (by decide) (fun h140 => absurd h140 hf) (fun _ => ?_)
          refine PW.iload dX5_callGroup_143 rfl ?_
          refine PW.if_lt (tgt := 185) dX5_callGroup_145 (by decide) (fun h145 => ?_) (fun h145 => ?_)
          · refine PW.iconst (v := 1) dX5_callGroup_185 (by decide) ?_
            refine PW.goto (tgt := 190) dX5_callGroup_186 (by decide) ?_
            refine PW.istore dX5_callGroup_190 (by decide) rfl ?_
            refine PW.iload dX5_callGroup_192 rfl ?_
            refine PW.if_eq (tgt := 202) dX5_callGroup_194 (by decide) (fun h194 => absurd h194 (by decide)) (fun _ => ?_)
            refine PW.iload dX5_callGroup_197 rfl ?_
            refine PW.goto (tgt := 204) dX5_callGroup_199 (by decide) ?_
            refine PW.istore dX5_callGroup_204 (by decide) rfl ?_
            refine PW.iinc (v := nI (s + 1)) dX5_callGroup_206 rfl (nI_1 s) (by decide) rfl ?_
            refine PW.goto (tgt := 8) dX5_callGroup_209 (by decide) ?_
            exact ih N _ _ _ _ _ _ (by omega) hG (Or.inl rfl) (Or.inr ⟨i, hi, rfl⟩) (by rw [← hr, cgL, ei, if_pos (b2i_t h75), if_neg hf, if_neg h114, if_pos (Or.inl h145)])
          · obtain ⟨q, hq, rfl⟩ : ∃ q, q < grN N g ∧ b = nI q := hb.resolve_left (fun z => by rw [z] at h145; exact h145 (by decide))
            obtain ⟨elq, hlq⟩ := hG.2.2.1 q hq
            refine PW.aload_n (i := 0) dX5_callGroup_148 rfl rfl ?_
            refine PW.getf FX5_callGroup_62 dX5_callGroup_149 sm_mod rfl ?_
            refine PW.iload_n (i := 2) dX5_callGroup_152 rfl rfl ?_
            refine PW.iald dX5_callGroup_153 ma_orders rfl (Nat.lt_trans hg (by decide)) (mg_orders hg) ?_
            refine PW.iconst (v := 2) dX5_callGroup_154 (by decide) ?_
            refine PW.icmp_ne (tgt := 189) dX5_callGroup_155 (by decide) (fun h155 => ?_) (fun h155 => ?_)
            · refine PW.iconst (v := 0) dX5_callGroup_189 (by decide) ?_
              refine PW.istore dX5_callGroup_190 (by decide) rfl ?_
              refine PW.iload dX5_callGroup_192 rfl ?_
              refine PW.if_eq (tgt := 202) dX5_callGroup_194 (by decide) (fun _ => ?_) (fun h194 => absurd rfl h194)
              refine PW.iload dX5_callGroup_202 rfl ?_
              refine PW.istore dX5_callGroup_204 (by decide) rfl ?_
              refine PW.iinc (v := nI (s + 1)) dX5_callGroup_206 rfl (nI_1 s) (by decide) rfl ?_
              refine PW.goto (tgt := 8) dX5_callGroup_209 (by decide) ?_
              exact ih N _ _ _ _ _ _ (by omega) hG (Or.inl rfl) hb (by rw [← hr, cgL, ei, if_pos (b2i_t h75), if_neg hf, if_neg h114, if_neg (fun z => z.elim h145 (fun z => h155 z.1))])
            · refine PW.aload_n (i := 0) dX5_callGroup_158 rfl rfl ?_
              refine PW.getf FX5_callGroup_16 dX5_callGroup_159 sm_mod rfl ?_
              refine PW.iload dX5_callGroup_162 rfl ?_
              refine PW.iald dX5_callGroup_164 ma_idleSince rfl (Nat.lt_trans hl (by decide)) (mg_idleSince hl) ?_
              refine PW.aload_n (i := 0) dX5_callGroup_165 rfl rfl ?_
              refine PW.getf FX5_callGroup_16 dX5_callGroup_166 sm_mod rfl ?_
              refine PW.aload_n (i := 0) dX5_callGroup_169 rfl rfl ?_
              refine PW.getf FX5_callGroup_56 dX5_callGroup_170 sm_mod rfl ?_
              refine PW.bipush (v := 6) dX5_callGroup_173 (by decide) ?_
              refine PW.iload_n (i := 2) dX5_callGroup_175 rfl rfl ?_
              refine PW.imul dX5_callGroup_176 ?_
              refine PW.iload dX5_callGroup_177 rfl ?_
              refine PW.iadd dX5_callGroup_179 ?_
              refine PW.iald dX5_callGroup_180 ma_members (ix6 g q) (by omega) (mg_members hg (by omega)) ?_
              rw [elq]
              refine PW.iald dX5_callGroup_181 ma_idleSince rfl (Nat.lt_trans hlq (by decide)) (mg_idleSince hlq) ?_
              refine PW.icmp_ge (tgt := 189) dX5_callGroup_182 (by decide) (fun h182 => ?_) (fun h182 => ?_)
              · refine PW.iconst (v := 0) dX5_callGroup_189 (by decide) ?_
                refine PW.istore dX5_callGroup_190 (by decide) rfl ?_
                refine PW.iload dX5_callGroup_192 rfl ?_
                refine PW.if_eq (tgt := 202) dX5_callGroup_194 (by decide) (fun _ => ?_) (fun h194 => absurd rfl h194)
                refine PW.iload dX5_callGroup_202 rfl ?_
                refine PW.istore dX5_callGroup_204 (by decide) rfl ?_
                refine PW.iinc (v := nI (s + 1)) dX5_callGroup_206 rfl (nI_1 s) (by decide) rfl ?_
                refine PW.goto (tgt := 8) dX5_callGroup_209 (by decide) ?_
                exact ih N _ _ _ _ _ _ (by omega) hG (Or.inl rfl) hb (by rw [← hr, cgL, ei, if_pos (b2i_t h75), if_neg hf, if_neg h114, if_neg (fun z => z.elim h145 (fun z => by rw [nI_clamp (by omega)] at z; exact Int32.not_lt.mpr h182 z.2))])
              · refine PW.iconst (v := 1) dX5_callGroup_185 (by decide) ?_
                refine PW.goto (tgt := 190) dX5_callGroup_186 (by decide) ?_
                refine PW.istore dX5_callGroup_190 (by decide) rfl ?_
                refine PW.iload dX5_callGroup_192 rfl ?_
                refine PW.if_eq (tgt := 202) dX5_callGroup_194 (by decide) (fun h194 => absurd h194 (by decide)) (fun _ => ?_)
                refine PW.iload dX5_callGroup_197 rfl ?_
                refine PW.goto (tgt := 204) dX5_callGroup_199 (by decide) ?_
                refine PW.istore dX5_callGroup_204 (by decide) rfl ?_
                refine PW.iinc (v := nI (s + 1)) dX5_callGroup_206 rfl (nI_1 s) (by decide) rfl ?_
                refine PW.goto (tgt := 8) dX5_callGroup_209 (by decide) ?_
                exact ih N _ _ _ _ _ _ (by omega) hG (Or.inl rfl) (Or.inr ⟨i, hi, rfl⟩) (by rw [← hr, cgL, ei, if_pos (b2i_t h75), if_neg hf, if_neg h114, if_pos (Or.inr ⟨h155, by rw [nI_clamp (by omega)]; exact Int32.not_le.mp h182⟩)])
        · refine PW.aload_n (i := 0) dX5_callGroup_117 rfl rfl ?_
          refine PW.iload_n (i := 1) dX5_callGroup_118 rfl rfl ?_
          refine PW.iload dX5_callGroup_119 rfl ?_
          refine PW.aload_n (i := 0) dX5_callGroup_121 rfl rfl ?_
          refine PW.iload_n (i := 1) dX5_callGroup_122 rfl rfl ?_
          refine PW.iload dX5_callGroup_123 rfl ?_
          refine PW.callV (k := kX5_callGroup) (n := 2) (c5_take hc hl) dX5_callGroup_125 gX5_callGroup_X5_take rfl hd_X5_take rfl ⟨by decide, by decide⟩ ⟨rfl, rfl⟩ (Nat.le_of_ble_eq_true rfl) ⟨by decide, by decide⟩ sm_mod (by decide) rfl rfl (fun v m9 hp => ?_) (fun _ _ hx => hx.elim)
          obtain ⟨rfl, rfl⟩ := hp
          refine PW.callV (k := kX5_callGroup) (n := 3) (c5_ring hc hl _) dX5_callGroup_128 gX5_callGroup_X5_ring rfl hd_X5_ring rfl ⟨by decide, by decide⟩ ⟨rfl, rfl⟩ (Nat.le_of_ble_eq_true rfl) ⟨by decide, by decide⟩ sm_mod (by decide) rfl rfl (fun v m9 hp => ?_) (fun _ _ hx => hx.elim)
          obtain ⟨rfl, rfl⟩ := hp
          refine PW.iload dX5_callGroup_131 rfl ?_
          refine PW.istore dX5_callGroup_133 (by decide) rfl ?_
          refine PW.goto (tgt := 206) dX5_callGroup_135 (by decide) ?_
          refine PW.iinc (v := nI (s + 1)) dX5_callGroup_206 rfl (nI_1 s) (by decide) rfl ?_
          refine PW.goto (tgt := 8) dX5_callGroup_209 (by decide) ?_
          exact ih _ _ _ _ _ _ _ (by rw [grN_rg hc hl hg]; omega) (hG.ring hc hl hg) (Or.inl rfl) (Or.inr ⟨i, by rw [grN_rg hc hl hg]; exact hi, rfl⟩) (by rw [← hr, cgL, ei, if_pos (b2i_t h75), if_neg hf, if_pos h114])
      · refine PW.iconst (v := 1) dX5_callGroup_96 (by decide) ?_
        refine PW.goto (tgt := 101) dX5_callGroup_97 (by decide) ?_
        refine PW.istore_n (i := 3) dX5_callGroup_101 rfl (by decide) rfl ?_
        have hf : f_free N c (mb N g i) < 0 := Int32.not_le.mp h93
        refine PW.iload dX5_callGroup_102 rfl ?_
        refine PW.if_lt (tgt := 138) dX5_callGroup_104 (by decide) (fun _ => ?_) (fun h104 => absurd hf h104)
        refine PW.iload dX5_callGroup_138 rfl ?_
        refine PW.if_lt (tgt := 206) dX5_callGroup_140 (by decide) (fun _ => ?_) (fun h140 => absurd hf h140)
        refine PW.iinc (v := nI (s + 1)) dX5_callGroup_206 rfl (nI_1 s) (by decide) rfl ?_
        refine PW.goto (tgt := 8) dX5_callGroup_209 (by decide) ?_
        exact ih N _ _ _ _ _ _ (by omega) hG (Or.inr rfl) hb (by rw [← hr, cgL, ei, if_pos (b2i_t h75), if_pos hf])
  · skip
    refine PW.istore dX5_callGroup_52 (by decide) rfl ?_
    refine PW.aload_n (i := 0) dX5_callGroup_54 rfl rfl ?_
    refine PW.getf FX5_callGroup_56 dX5_callGroup_55 sm_mod rfl ?_
    refine PW.bipush (v := 6) dX5_callGroup_58 (by decide) ?_
    refine PW.iload_n (i := 2) dX5_callGroup_60 rfl rfl ?_
    refine PW.imul dX5_callGroup_61 ?_
    refine PW.iload dX5_callGroup_62 rfl ?_
    refine PW.iadd dX5_callGroup_64 ?_
    refine PW.iald dX5_callGroup_65 ma_members (ix6 g i) (by omega) (mg_members hg (by omega)) ?_
    rw [el]
    refine PW.istore dX5_callGroup_66 (by decide) rfl ?_
    refine PW.aload_n (i := 0) dX5_callGroup_68 rfl rfl ?_
    refine PW.iload_n (i := 1) dX5_callGroup_69 rfl rfl ?_
    refine PW.iload dX5_callGroup_70 rfl ?_
    refine PW.callV (k := kX5_callGroup) (n := 2) (c5_mayRing hc hl) dX5_callGroup_72 gX5_callGroup_X5_mayRing rfl hd_X5_mayRing rfl ⟨by decide, by decide⟩ ⟨rfl, rfl⟩ (Nat.le_of_ble_eq_true rfl) ⟨by decide, by decide⟩ sm_mod (by decide) rfl rfl (fun v m9 hp => ?_) (fun _ _ hx => hx.elim)
    obtain ⟨rfl, rfl⟩ := hp
    refine PW.if_eq (tgt := 206) dX5_callGroup_75 (by decide) (fun h75 => ?_) (fun h75 => ?_)
    · refine PW.iinc (v := nI (s + 1)) dX5_callGroup_206 rfl (nI_1 s) (by decide) rfl ?_
      refine PW.goto (tgt := 8) dX5_callGroup_209 (by decide) ?_
      exact ih N _ _ _ _ _ _ (by omega) hG (Or.inr rfl) hb (by rw [← hr, cgL, ei, if_neg (by rw [b2i_z h75]; decide)])
    · refine PW.aload_n (i := 0) dX5_callGroup_78 rfl rfl ?_
      refine PW.iload_n (i := 1) dX5_callGroup_79 rfl rfl ?_
      refine PW.iload dX5_callGroup_80 rfl ?_
      refine PW.callV (k := kX5_callGroup) (n := 2) (c5_free hc hl) dX5_callGroup_82 gX5_callGroup_X5_free rfl hd_X5_free rfl ⟨by decide, by decide⟩ ⟨rfl, rfl⟩ (Nat.le_of_ble_eq_true rfl) ⟨by decide, by decide⟩ sm_mod (by decide) rfl rfl (fun v m9 hp => ?_) (fun _ _ hx => hx.elim)
      obtain ⟨rfl, rfl⟩ := hp
      refine PW.istore dX5_callGroup_85 (by decide) rfl ?_
      refine PW.iload_n (i := 3) dX5_callGroup_87 rfl rfl ?_
      refine PW.if_ne (tgt := 96) dX5_callGroup_88 (by decide) (fun _ => ?_) (fun h88 => absurd h88 (by decide))
      refine PW.iconst (v := 1) dX5_callGroup_96 (by decide) ?_
      refine PW.goto (tgt := 101) dX5_callGroup_97 (by decide) ?_
      refine PW.istore_n (i := 3) dX5_callGroup_101 rfl (by decide) rfl ?_
      refine PW.iload dX5_callGroup_102 rfl ?_
      refine PW.if_lt (tgt := 138) dX5_callGroup_104 (by decide) (fun h104 => ?_) (fun h104 => ?_)
      · have hf := h104
        refine PW.iload dX5_callGroup_138 rfl ?_
        refine PW.if_lt (tgt := 206) dX5_callGroup_140 (by decide) (fun _ => ?_) (fun h140 => absurd hf h140)
        refine PW.iinc (v := nI (s + 1)) dX5_callGroup_206 rfl (nI_1 s) (by decide) rfl ?_
        refine PW.goto (tgt := 8) dX5_callGroup_209 (by decide) ?_
        exact ih N _ _ _ _ _ _ (by omega) hG (Or.inr rfl) hb (by rw [← hr, cgL, ei, if_pos (b2i_t h75), if_pos hf])
      · have hf := h104
        refine PW.aload_n (i := 0) dX5_callGroup_107 rfl rfl ?_
        refine PW.getf FX5_callGroup_62 dX5_callGroup_108 sm_mod rfl ?_
        refine PW.iload_n (i := 2) dX5_callGroup_111 rfl rfl ?_
        refine PW.iald dX5_callGroup_112 ma_orders rfl (Nat.lt_trans hg (by decide)) (mg_orders hg) ?_
        refine PW.iconst (v := 3) dX5_callGroup_113 (by decide) ?_
        refine PW.icmp_ne (tgt := 138) dX5_callGroup_114 (by decide) (fun h114 => ?_) (fun h114 => ?_)
        · refine PW.iload dX5_callGroup_138 rfl ?_
          refine PW.if_lt (tgt := 206) dX5_callGroup_140 (by decide) (fun h140 => absurd h140 hf) (fun _ => ?_)
          refine PW.iload dX5_callGroup_143 rfl ?_
          refine PW.if_lt (tgt := 185) dX5_callGroup_145 (by decide) (fun h145 => ?_) (fun h145 => ?_)
          · refine PW.iconst (v := 1) dX5_callGroup_185 (by decide) ?_
            refine PW.goto (tgt := 190) dX5_callGroup_186 (by decide) ?_
            refine PW.istore dX5_callGroup_190 (by decide) rfl ?_
            refine PW.iload dX5_callGroup_192 rfl ?_
            refine PW.if_eq (tgt := 202) dX5_callGroup_194 (by decide) (fun h194 => absurd h194 (by decide)) (fun _ => ?_)
            refine PW.iload dX5_callGroup_197 rfl ?_
            refine PW.goto (tgt := 204) dX5_callGroup_199 (by decide) ?_
            refine PW.istore dX5_callGroup_204 (by decide) rfl ?_
            refine PW.iinc (v := nI (s + 1)) dX5_callGroup_206 rfl (nI_1 s) (by decide) rfl ?_
            refine PW.goto (tgt := 8) dX5_callGroup_209 (by decide) ?_
            exact ih N _ _ _ _ _ _ (by omega) hG (Or.inr rfl) (Or.inr ⟨i, hi, rfl⟩) (by rw [← hr, cgL, ei, if_pos (b2i_t h75), if_neg hf, if_neg h114, if_pos (Or.inl h145)])
          · obtain ⟨q, hq, rfl⟩ : ∃ q, q < grN N g ∧ b = nI q := hb.resolve_left (fun z => by rw [z] at h145; exact h145 (by decide))
            obtain ⟨elq, hlq⟩ := hG.2.2.1 q hq
            refine PW.aload_n (i := 0) dX5_callGroup_148 rfl rfl ?_
            refine PW.getf FX5_callGroup_62 dX5_callGroup_149 sm_mod rfl ?_
            refine PW.iload_n (i := 2) dX5_callGroup_152 rfl rfl ?_
            refine PW.iald dX5_callGroup_153 ma_orders rfl (Nat.lt_trans hg (by decide)) (mg_orders hg) ?_
            refine PW.iconst (v := 2) dX5_callGroup_154 (by decide) ?_
            refine PW.icmp_ne (tgt := 189) dX5_callGroup_155 (by decide) (fun h155 => ?_) (fun h155 => ?_)
            · refine PW.iconst (v := 0) dX5_callGroup_189 (by decide) ?_
              refine PW.istore dX5_callGroup_190 (by decide) rfl ?_
              refine PW.iload dX5_callGroup_192 rfl ?_
              refine PW.if_eq (tgt := 202) dX5_callGroup_194 (by decide) (fun _ => ?_) (fun h194 => absurd rfl h194)
              refine PW.iload dX5_callGroup_202 rfl ?_
              refine PW.istore dX5_callGroup_204 (by decide) rfl ?_
              refine PW.iinc (v := nI (s + 1)) dX5_callGroup_206 rfl (nI_1 s) (by decide) rfl ?_
              refine PW.goto (tgt := 8) dX5_callGroup_209 (by decide) ?_
              exact ih N _ _ _ _ _ _ (by omega) hG (Or.inr rfl) hb (by rw [← hr, cgL, ei, if_pos (b2i_t h75), if_neg hf, if_neg h114, if_neg (fun z => z.elim h145 (fun z => h155 z.1))])
            · refine PW.aload_n (i := 0) dX5_callGroup_158 rfl rfl ?_
              refine PW.getf FX5_callGroup_16 dX5_callGroup_159 sm_mod rfl ?_
              refine PW.iload dX5_callGroup_162 rfl ?_
              refine PW.iald dX5_callGroup_164 ma_idleSince rfl (Nat.lt_trans hl (by decide)) (mg_idleSince hl) ?_
              refine PW.aload_n (i := 0) dX5_callGroup_165 rfl rfl ?_
              refine PW.getf FX5_callGroup_16 dX5_callGroup_166 sm_mod rfl ?_
              refine PW.aload_n (i := 0) dX5_callGroup_169 rfl rfl ?_
              refine PW.getf FX5_callGroup_56 dX5_callGroup_170 sm_mod rfl ?_
              refine PW.bipush (v := 6) dX5_callGroup_173 (by decide) ?_
              refine PW.iload_n (i := 2) dX5_callGroup_175 rfl rfl ?_
              refine PW.imul dX5_callGroup_176 ?_
              refine PW.iload dX5_callGroup_177 rfl ?_
              refine PW.iadd dX5_callGroup_179 ?_
              refine PW.iald dX5_callGroup_180 ma_members (ix6 g q) (by omega) (mg_members hg (by omega)) ?_
              rw [elq]
              refine PW.iald dX5_callGroup_181 ma_idleSince rfl (Nat.lt_trans hlq (by decide)) (mg_idleSince hlq) ?_
              refine PW.icmp_ge (tgt := 189) dX5_callGroup_182 (by decide) (fun h182 => ?_) (fun h182 => ?_)
              · refine PW.iconst (v := 0) dX5_callGroup_189 (by decide) ?_
                refine PW.istore dX5_callGroup_190 (by decide) rfl ?_
                refine PW.iload dX5_callGroup_192 rfl ?_
                refine PW.if_eq (tgt := 202) dX5_callGroup_194 (by decide) (fun _ => ?_) (fun h194 => absurd rfl h194)
                refine PW.iload dX5_callGroup_202 rfl ?_
                refine PW.istore dX5_callGroup_204 (by decide) rfl ?_
                refine PW.iinc (v := nI (s + 1)) dX5_callGroup_206 rfl (nI_1 s) (by decide) rfl ?_
                refine PW.goto (tgt := 8) dX5_callGroup_209 (by decide) ?_
                exact ih N _ _ _ _ _ _ (by omega) hG (Or.inr rfl) hb (by rw [← hr, cgL, ei, if_pos (b2i_t h75), if_neg hf, if_neg h114, if_neg (fun z => z.elim h145 (fun z => by rw [nI_clamp (by omega)] at z; exact Int32.not_lt.mpr h182 z.2))])
              · refine PW.iconst (v := 1) dX5_callGroup_185 (by decide) ?_
                refine PW.goto (tgt := 190) dX5_callGroup_186 (by decide) ?_
                refine PW.istore dX5_callGroup_190 (by decide) rfl ?_
                refine PW.iload dX5_callGroup_192 rfl ?_
                refine PW.if_eq (tgt := 202) dX5_callGroup_194 (by decide) (fun h194 => absurd h194 (by decide)) (fun _ => ?_)
                refine PW.iload dX5_callGroup_197 rfl ?_
                refine PW.goto (tgt := 204) dX5_callGroup_199 (by decide) ?_
                refine PW.istore dX5_callGroup_204 (by decide) rfl ?_
                refine PW.iinc (v := nI (s + 1)) dX5_callGroup_206 rfl (nI_1 s) (by decide) rfl ?_
                refine PW.goto (tgt := 8) dX5_callGroup_209 (by decide) ?_
                exact ih N _ _ _ _ _ _ (by omega) hG (Or.inr rfl) (Or.inr ⟨i, hi, rfl⟩) (by rw [← hr, cgL, ei, if_pos (b2i_t h75), if_neg hf, if_neg h114, if_pos (Or.inr ⟨h155, by rw [nI_clamp (by omega)]; exact Int32.not_le.mp h182⟩)])
        · refine PW.aload_n (i := 0) dX5_callGroup_117 rfl rfl ?_
          refine PW.iload_n (i := 1) dX5_callGroup_118 rfl rfl ?_
          refine PW.iload dX5_callGroup_119 rfl ?_
          refine PW.aload_n (i := 0) dX5_callGroup_121 rfl rfl ?_
          refine PW.iload_n (i := 1) dX5_callGroup_122 rfl rfl ?_
          refine PW.iload dX5_callGroup_123 rfl ?_
          refine PW.callV (k := kX5_callGroup) (n := 2) (c5_take hc hl) dX5_callGroup_125 gX5_callGroup_X5_take rfl hd_X5_take rfl ⟨by decide, by decide⟩ ⟨rfl, rfl⟩ (Nat.le_of_ble_eq_true rfl) ⟨by decide, by decide⟩ sm_mod (by decide) rfl rfl (fun v m9 hp => ?_) (fun _ _ hx => hx.elim)
          obtain ⟨rfl, rfl⟩ := hp
          refine PW.callV (k := kX5_callGroup) (n := 3) (c5_ring hc hl _) dX5_callGroup_128 gX5_callGroup_X5_ring rfl hd_X5_ring rfl ⟨by decide, by decide⟩ ⟨rfl, rfl⟩ (Nat.le_of_ble_eq_true rfl) ⟨by decide, by decide⟩ sm_mod (by decide) rfl rfl (fun v m9 hp => ?_) (fun _ _ hx => hx.elim)
          obtain ⟨rfl, rfl⟩ := hp
          refine PW.iload dX5_callGroup_131 rfl ?_
          refine PW.istore dX5_callGroup_133 (by decide) rfl ?_
          refine PW.goto (tgt := 206) dX5_callGroup_135 (by decide) ?_
          refine PW.iinc (v := nI (s + 1)) dX5_callGroup_206 rfl (nI_1 s) (by decide) rfl ?_
          refine PW.goto (tgt := 8) dX5_callGroup_209 (by decide) ?_
          exact ih _ _ _ _ _ _ _ (by rw [grN_rg hc hl hg]; omega) (hG.ring hc hl hg) (Or.inr rfl) (Or.inr ⟨i, by rw [grN_rg hc hl hg]; exact hi, rfl⟩) (by rw [← hr, cgL, ei, if_pos (b2i_t h75), if_neg hf, if_pos h114])
set_option maxRecDepth 100000 in
set_option maxHeartbeats 4000000 in
theorem cg_loop {M : dM} {R : pM} {n0 c g : Nat} {fin : dM × Int32 × Int32} (hc : c < 24) (hg : g < 4) : ∀ (n s : Nat) (N : dM) (m b : Int32) (w6 w7 w8 w9 : Option Value), s + n = grN N g → GO N g → (m = 0 ∨ m = 1) → (b = -1 ∨ ∃ q, q < grN N g ∧ b = nI q) → cgL c g n s N m b = fin → PW kX5_callGroup false n0 (fun v m9 => v = none ∧ m9 = SM M ++ (MM (g_cgEnd fin.1 c g fin.2.1 fin.2.2) ++ R)) (fun _ _ => False) 8 [some (.ref 44), some (.int (nI c)), some (.int (nI g)), some (.int m), some (.int b), some (.int (nI s)), w6, w7, w8, w9] [] (SM M ++ (MM N ++ R)) 0 0 := by
  intro n
  induction n with
  | zero =>
    intro s N m b w6 w7 w8 w9 hs hG hm hb hr
    have eN := hG.1
    have h6 := hG.2.1
    refine PW.iload dX5_callGroup_8 rfl ?_
    refine PW.aload_n (i := 0) dX5_callGroup_10 rfl rfl ?_
    refine PW.getf FX5_callGroup_59 dX5_callGroup_11 sm_mod rfl ?_
    refine PW.iload_n (i := 2) dX5_callGroup_14 rfl rfl ?_
    refine PW.iald dX5_callGroup_15 ma_many rfl (Nat.lt_trans hg (by decide)) (mg_many hg) ?_
    rw [eN]
    refine PW.icmp_ge (tgt := 212) dX5_callGroup_16 (by decide) (fun _ => ?_) (fun h16 => absurd (nI_le (a := grN N g) (b := s) (by omega) (by omega)) h16)
    rw [← hr]
    exact cg_end hc hg hG hb
  | succ n ih =>
    intro s N m b w6 w7 w8 w9 hs hG hm hb hr
    have eN := hG.1
    have h6 := hG.2.1
    refine PW.iload dX5_callGroup_8 rfl ?_
    refine PW.aload_n (i := 0) dX5_callGroup_10 rfl rfl ?_
    refine PW.getf FX5_callGroup_59 dX5_callGroup_11 sm_mod rfl ?_
    refine PW.iload_n (i := 2) dX5_callGroup_14 rfl rfl ?_
    refine PW.iald dX5_callGroup_15 ma_many rfl (Nat.lt_trans hg (by decide)) (mg_many hg) ?_
    rw [eN]
    refine PW.icmp_ge (tgt := 212) dX5_callGroup_16 (by decide) (fun h16 => absurd h16 (nI_ge (a := s) (b := grN N g) (by omega) (by omega))) (fun _ => ?_)
    refine PW.aload_n (i := 0) dX5_callGroup_19 rfl rfl ?_
    refine PW.getf FX5_callGroup_62 dX5_callGroup_20 sm_mod rfl ?_
    refine PW.iload_n (i := 2) dX5_callGroup_23 rfl rfl ?_
    refine PW.iald dX5_callGroup_24 ma_orders rfl (Nat.lt_trans hg (by decide)) (mg_orders hg) ?_
    refine PW.iconst (v := 1) dX5_callGroup_25 (by decide) ?_
    refine PW.icmp_ne (tgt := 50) dX5_callGroup_26 (by decide) (fun h26 => ?_) (fun h26 => ?_)
    · refine PW.iload dX5_callGroup_50 rfl ?_
      exact cg_body hc hg (fun N' m' b' w6 w7 w8 w9 => ih (s + 1) N' m' b' w6 w7 w8 w9) hs hG hm hb hr (by rw [gi, if_neg h26]) (by omega)
    · obtain ⟨eS, hS6⟩ := hG.2.2.2 h26
      refine PW.aload_n (i := 0) dX5_callGroup_29 rfl rfl ?_
      refine PW.getf FX5_callGroup_65 dX5_callGroup_30 sm_mod rfl ?_
      refine PW.iload_n (i := 2) dX5_callGroup_33 rfl rfl ?_
      refine PW.iald dX5_callGroup_34 ma_taken rfl (Nat.lt_trans hg (by decide)) (mg_taken hg) ?_
      refine PW.iconst (v := 1) dX5_callGroup_35 (by decide) ?_
      refine PW.iadd dX5_callGroup_36 ?_
      rw [eS]
      refine PW.iload dX5_callGroup_37 rfl ?_
      refine PW.iadd dX5_callGroup_39 ?_
      rw [nI_add]
      refine PW.aload_n (i := 0) dX5_callGroup_40 rfl rfl ?_
      refine PW.getf FX5_callGroup_59 dX5_callGroup_41 sm_mod rfl ?_
      refine PW.iload_n (i := 2) dX5_callGroup_44 rfl rfl ?_
      refine PW.iald dX5_callGroup_45 ma_many rfl (Nat.lt_trans hg (by decide)) (mg_many hg) ?_
      rw [eN]
      refine PW.irem dX5_callGroup_46 (fun z => by have := nI_eq24 (by omega) (by omega) (show nI (grN N g) = nI 0 from z); omega) ?_
      rw [pk_rem (by omega) (by omega) (by omega)]
      refine PW.goto (tgt := 52) dX5_callGroup_47 (by decide) ?_
      exact cg_body hc hg (fun N' m' b' w6 w7 w8 w9 => ih (s + 1) N' m' b' w6 w7 w8 w9) hs hG hm hb hr (by rw [gi, if_pos h26]) (Nat.mod_lt _ (by omega))
set_option maxRecDepth 100000 in
set_option maxHeartbeats 4000000 in
theorem c5_callGroup {M N : dM} {R : pM} {c g : Nat} (hc : c < 24) (hg : g < 4) (hG : GO N g) (l9 : Launch) : pMet l9 yX5_callGroup kX5_callGroup false [.ref 44, .int (nI c), .int (nI g)] (SM M ++ (MM N ++ R)) (fun v m9 => v = none ∧ m9 = SM M ++ (MM (g_callGroup N c g) ++ R)) (fun _ _ => False) := by
  refine pMet.of (by decide) rfl rfl rfl (by intro v hv; simp only [List.mem_cons, List.not_mem_nil, or_false] at hv; rcases hv with rfl | rfl | rfl <;> rfl) (Nat.le_of_ble_eq_true rfl) ?_
  show PW _ _ _ _ _ 0 [some (.ref 44), some (.int (nI c)), some (.int (nI g)), none, none, none, none, none, none, none] [] (SM M ++ (MM N ++ R)) 0 0
  refine PW.iconst (v := 0) dX5_callGroup_0 (by decide) ?_
  refine PW.istore_n (i := 3) dX5_callGroup_1 rfl (by decide) rfl ?_
  refine PW.iconst (v := (-1)) dX5_callGroup_2 (by decide) ?_
  refine PW.istore dX5_callGroup_3 (by decide) rfl ?_
  refine PW.iconst (v := 0) dX5_callGroup_5 (by decide) ?_
  refine PW.istore dX5_callGroup_6 (by decide) rfl ?_
  exact cg_loop hc hg (grN N g) 0 N 0 (-1) _ _ _ _ (by omega) hG (Or.inl rfl) (Or.inl rfl) rfl
