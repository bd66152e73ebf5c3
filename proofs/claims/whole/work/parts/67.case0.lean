/-! THE LAW'S CASES -/
set_option maxRecDepth 100000 in
set_option maxHeartbeats 4000000 in
theorem law_up {b Ls n : Nat} {xs : Nat → Int32} {M N : dM} {w : Int64} {z : Int32} {cells slots : Nat} (hLs : Ls ≤ 2048) (hi : 4 * n + 4 ≤ Ls) (hn : n < 512) (h : Ok n M N) (hG : Gd z N) (hc : cells + 3 ≤ 612755) (hs : slots + 18 ≤ 7257839)
    (kk : ∀ (M' N' : dM) (w' : Int64) (z' : Int32), Ok (n + 1) M' N' → Gd z' N' → PW (kL_law b Ls xs) false 0 lwP lwT 928 [some (.retAddr b), some (.ref 0), some (.ref 44), some (.ref 65), some (.int (nI (4 * n))), none, none] [] (SM M' ++ (MM N' ++ ((101, [.long w']) :: []))) (cells + 3) (slots + 18)) :
    PW (kL_law b Ls xs) false 0 lwP lwT 104 [some (.retAddr b), some (.ref 0), some (.ref 44), some (.ref 65), some (.int (nI (4 * n))), none, none] [] (SM M ++ (MM N ++ ((101, [.long w]) :: []))) cells slots := by
  refine PW.aload_n (i := 1) dL_law_104 rfl rfl ?_
  refine PW.aload_nA (i := 0) dL_law_105 rfl rfl ?_
  refine PW.iload dL_law_106 rfl ?_
  refine PW.iconst (v := 1) dL_law_108 (by decide) ?_
  refine PW.iadd dL_law_109 ?_
  refine PW.sld (n := 4 * n + 1) rfl dL_law_110 (nI_add _ 1) (by omega) (by omega) rfl ?_
  refine PW.aload_n (i := 3) dL_law_111 rfl rfl ?_
  refine PW.callSW (k := (kL_law b Ls xs)) (n := 3) (hhl := [(0, 9, 12, 13), (0, 9, 15, 15)]) (h_up (xs (4 * n + 1)) h.2.1 w) dL_law_112 gL_law_L_up rfl hdL_up rfl ⟨(Nat.le_of_ble_eq_true rfl), (Nat.le_of_ble_eq_true rfl)⟩ ⟨rfl, rfl⟩ (Nat.le_of_ble_eq_true rfl) ⟨Nat.le_trans (Nat.add_le_add_left (show 2 ≤ 3 by decide) cells) hc, Nat.le_trans (Nat.add_le_add_left (show 12 ≤ 18 by decide) slots) hs⟩ rfl (fun v m9 hp => ?_) (fun _ _ hx => hx.elim)
  obtain ⟨r, a, M', w9, hH, rfl, rfl, hw9⟩ := hp
  obtain ⟨v9, N', hm, hG', hra, hO⟩ := b_up h hn hG hH
  refine PW.istore dL_law_115 (Nat.le_of_ble_eq_true rfl) rfl ?_
  refine PW.aload_n (i := 2) dL_law_117 rfl rfl ?_
  refine PW.aload_nA (i := 0) dL_law_118 rfl rfl ?_
  refine PW.iload dL_law_119 rfl ?_
  refine PW.iconst (v := 1) dL_law_121 (by decide) ?_
  refine PW.iadd dL_law_122 ?_
  refine PW.sld (n := 4 * n + 1) rfl dL_law_123 (nI_add _ 1) (by omega) (by omega) rfl ?_
  refine PW.callV (k := (kL_law b Ls xs)) (n := 1) (k' := kX5_up) (hm _) dL_law_124 gL_law_X5_up rfl hd_X5_up rfl ⟨(Nat.le_of_ble_eq_true rfl), (Nat.le_of_ble_eq_true rfl)⟩ ⟨rfl, rfl⟩ (Nat.le_of_ble_eq_true rfl) ⟨Nat.le_trans (Nat.add_le_add_left (show 2 ≤ 3 by decide) cells) hc, Nat.le_trans (Nat.add_le_add_left (show 12 ≤ 18 by decide) slots) hs⟩ sm_mod (by decide) rfl rfl (fun v m9 hp => ?_) (fun _ _ hx => hx.elim)
  obtain ⟨rfl, rfl⟩ := hp
  refine PW.istore dL_law_127 (Nat.le_of_ble_eq_true rfl) rfl ?_
  refine PW.aload_n (i := 2) dL_law_129 rfl rfl ?_
  refine PW.callV (k := (kL_law b Ls xs)) (n := 0) c5_thrown dL_law_130 gL_law_X5_thrown rfl hd_X5_thrown rfl ⟨(Nat.le_of_ble_eq_true rfl), (Nat.le_of_ble_eq_true rfl)⟩ ⟨rfl, rfl⟩ (Nat.le_of_ble_eq_true rfl) ⟨Nat.le_trans (Nat.add_le_add_left (show 2 ≤ 3 by decide) cells) hc, Nat.le_trans (Nat.add_le_add_left (show 12 ≤ 18 by decide) slots) hs⟩ sm_mod (by decide) rfl rfl (fun v m9 hp => ?_) (fun _ _ hx => hx.elim)
  obtain ⟨rfl, rfl⟩ := hp
  refine PW.iload dL_law_133 rfl ?_
  refine PW.icmp_eq (tgt := 140) dL_law_135 (by decide) (fun _ => ?_) (fun q9 => absurd hG'.2.2.2 q9)
  refine PW.iload dL_law_140 rfl ?_
  refine PW.if_ne (tgt := 157) dL_law_142 (by decide) (fun _ => ?_) (fun q9 => ?_)
  · refine PW.goto (tgt := 928) dL_law_157 (by decide) ?_
    refine PW.forget lw_forget ?_
    exact PW.widen (Nat.add_le_add_left (show 2 ≤ 3 by decide) cells) (Nat.add_le_add_left (show 12 ≤ 18 by decide) slots) (kk M' N' w9 r hO hG')
  · refine PW.aload_n (i := 3) dL_law_145 rfl rfl ?_
    refine PW.iconst (v := 0) dL_law_146 (by decide) ?_
    refine PW.lald (n := 0) dL_law_147 sm_out rfl (by decide) rfl ?_
    refine PW.iload dL_law_148 rfl ?_
    refine PW.i2l dL_law_150 ?_
    refine PW.lcmpE dL_law_151 (by rw [hw9 q9, hra q9]) ?_
    refine PW.if_eq (tgt := 157) dL_law_152 (by decide) (fun _ => ?_) (fun q8 => absurd rfl q8)
    refine PW.goto (tgt := 928) dL_law_157 (by decide) ?_
    refine PW.forget lw_forget ?_
    exact PW.widen (Nat.add_le_add_left (show 2 ≤ 3 by decide) cells) (Nat.add_le_add_left (show 12 ≤ 18 by decide) slots) (kk M' N' w9 r hO hG')
set_option maxRecDepth 100000 in
set_option maxHeartbeats 4000000 in
theorem law_down {b Ls n : Nat} {xs : Nat → Int32} {M N : dM} {w : Int64} {z : Int32} {cells slots : Nat} (hLs : Ls ≤ 2048) (hi : 4 * n + 4 ≤ Ls) (hn : n < 512) (h : Ok n M N) (hG : Gd z N) (hc : cells + 3 ≤ 612755) (hs : slots + 18 ≤ 7257839)
    (kk : ∀ (M' N' : dM) (w' : Int64) (z' : Int32), Ok (n + 1) M' N' → Gd z' N' → PW (kL_law b Ls xs) false 0 lwP lwT 928 [some (.retAddr b), some (.ref 0), some (.ref 44), some (.ref 65), some (.int (nI (4 * n))), none, none] [] (SM M' ++ (MM N' ++ ((101, [.long w']) :: []))) (cells + 3) (slots + 18)) :
    PW (kL_law b Ls xs) false 0 lwP lwT 160 [some (.retAddr b), some (.ref 0), some (.ref 44), some (.ref 65), some (.int (nI (4 * n))), none, none] [] (SM M ++ (MM N ++ ((101, [.long w]) :: []))) cells slots := by
  refine PW.aload_n (i := 1) dL_law_160 rfl rfl ?_
  refine PW.aload_nA (i := 0) dL_law_161 rfl rfl ?_
  refine PW.iload dL_law_162 rfl ?_
  refine PW.iconst (v := 1) dL_law_164 (by decide) ?_
  refine PW.iadd dL_law_165 ?_
  refine PW.sld (n := 4 * n + 1) rfl dL_law_166 (nI_add _ 1) (by omega) (by omega) rfl ?_
  refine PW.callSW (k := (kL_law b Ls xs)) (n := 2) (hhl := [(0, 5, 8, 13), (0, 5, 11, 15)]) (h_down (xs (4 * n + 1)) h.2.1 (h.wrM hn)) dL_law_167 gL_law_L_down rfl hdL_down rfl ⟨(Nat.le_of_ble_eq_true rfl), (Nat.le_of_ble_eq_true rfl)⟩ ⟨rfl, rfl⟩ (Nat.le_of_ble_eq_true rfl) ⟨Nat.le_trans (Nat.add_le_add_left (show 2 ≤ 3 by decide) cells) hc, Nat.le_trans (Nat.add_le_add_left (show 12 ≤ 18 by decide) slots) hs⟩ rfl (fun v m9 hp => ?_) (fun _ _ hx => hx.elim)
  obtain ⟨r, a, M', hH, rfl, rfl⟩ := hp
  obtain ⟨N', hm, hG', hO⟩ := b_down h hn hG hH
  refine PW.istore dL_law_170 (Nat.le_of_ble_eq_true rfl) rfl ?_
  refine PW.aload_n (i := 2) dL_law_172 rfl rfl ?_
  refine PW.aload_nA (i := 0) dL_law_173 rfl rfl ?_
  refine PW.iload dL_law_174 rfl ?_
  refine PW.iconst (v := 1) dL_law_176 (by decide) ?_
  refine PW.iadd dL_law_177 ?_
  refine PW.sld (n := 4 * n + 1) rfl dL_law_178 (nI_add _ 1) (by omega) (by omega) rfl ?_
  refine PW.callV (k := (kL_law b Ls xs)) (n := 1) (k' := kX5_down) (hm _) dL_law_179 gL_law_X5_down rfl hd_X5_down rfl ⟨(Nat.le_of_ble_eq_true rfl), (Nat.le_of_ble_eq_true rfl)⟩ ⟨rfl, rfl⟩ (Nat.le_of_ble_eq_true rfl) ⟨Nat.le_trans (Nat.add_le_add_left (show 2 ≤ 3 by decide) cells) hc, Nat.le_trans (Nat.add_le_add_left (show 12 ≤ 18 by decide) slots) hs⟩ sm_mod (by decide) rfl rfl (fun v m9 hp => ?_) (fun _ _ hx => hx.elim)
  obtain ⟨rfl, rfl⟩ := hp
  refine PW.aload_n (i := 2) dL_law_182 rfl rfl ?_
  refine PW.callV (k := (kL_law b Ls xs)) (n := 0) c5_thrown dL_law_183 gL_law_X5_thrown rfl hd_X5_thrown rfl ⟨(Nat.le_of_ble_eq_true rfl), (Nat.le_of_ble_eq_true rfl)⟩ ⟨rfl, rfl⟩ (Nat.le_of_ble_eq_true rfl) ⟨Nat.le_trans (Nat.add_le_add_left (show 2 ≤ 3 by decide) cells) hc, Nat.le_trans (Nat.add_le_add_left (show 12 ≤ 18 by decide) slots) hs⟩ sm_mod (by decide) rfl rfl (fun v m9 hp => ?_) (fun _ _ hx => hx.elim)
  obtain ⟨rfl, rfl⟩ := hp
  refine PW.iload dL_law_186 rfl ?_
  refine PW.icmp_eq (tgt := 193) dL_law_188 (by decide) (fun _ => ?_) (fun q9 => absurd hG'.2.2.2 q9)
  refine PW.goto (tgt := 928) dL_law_193 (by decide) ?_
  refine PW.forget lw_forget ?_
  exact PW.widen (Nat.add_le_add_left (show 2 ≤ 3 by decide) cells) (Nat.add_le_add_left (show 12 ≤ 18 by decide) slots) (kk M' N' w r hO hG')
set_option maxRecDepth 100000 in
set_option maxHeartbeats 4000000 in
theorem law_digit {b Ls n : Nat} {xs : Nat → Int32} {M N : dM} {w : Int64} {z : Int32} {cells slots : Nat} (hLs : Ls ≤ 2048) (hi : 4 * n + 4 ≤ Ls) (hn : n < 512) (h : Ok n M N) (hG : Gd z N) (hc : cells + 3 ≤ 612755) (hs : slots + 18 ≤ 7257839)
    (kk : ∀ (M' N' : dM) (w' : Int64) (z' : Int32), Ok (n + 1) M' N' → Gd z' N' → PW (kL_law b Ls xs) false 0 lwP lwT 928 [some (.retAddr b), some (.ref 0), some (.ref 44), some (.ref 65), some (.int (nI (4 * n))), none, none] [] (SM M' ++ (MM N' ++ ((101, [.long w']) :: []))) (cells + 3) (slots + 18)) :
    PW (kL_law b Ls xs) false 0 lwP lwT 196 [some (.retAddr b), some (.ref 0), some (.ref 44), some (.ref 65), some (.int (nI (4 * n))), none, none] [] (SM M ++ (MM N ++ ((101, [.long w]) :: []))) cells slots := by
  refine PW.aload_n (i := 1) dL_law_196 rfl rfl ?_
  refine PW.aload_nA (i := 0) dL_law_197 rfl rfl ?_
  refine PW.iload dL_law_198 rfl ?_
  refine PW.iconst (v := 1) dL_law_200 (by decide) ?_
  refine PW.iadd dL_law_201 ?_
  refine PW.sld (n := 4 * n + 1) rfl dL_law_202 (nI_add _ 1) (by omega) (by omega) rfl ?_
  refine PW.aload_nA (i := 0) dL_law_203 rfl rfl ?_
  refine PW.iload dL_law_204 rfl ?_
  refine PW.iconst (v := 2) dL_law_206 (by decide) ?_
  refine PW.iadd dL_law_207 ?_
  refine PW.sld (n := 4 * n + 2) rfl dL_law_208 (nI_add _ 2) (by omega) (by omega) rfl ?_
  refine PW.aload_n (i := 3) dL_law_209 rfl rfl ?_
  refine PW.callSW (k := (kL_law b Ls xs)) (n := 4) (hhl := [(0, 10, 13, 13)]) (h_digit (xs (4 * n + 1)) (xs (4 * n + 2)) h.2.1 w) dL_law_210 gL_law_L_digit rfl hdL_digit rfl ⟨(Nat.le_of_ble_eq_true rfl), (Nat.le_of_ble_eq_true rfl)⟩ ⟨rfl, rfl⟩ (Nat.le_of_ble_eq_true rfl) ⟨Nat.le_trans (Nat.add_le_add_left (show 2 ≤ 3 by decide) cells) hc, Nat.le_trans (Nat.add_le_add_left (show 12 ≤ 18 by decide) slots) hs⟩ rfl (fun v m9 hp => ?_) (fun _ _ hx => hx.elim)
  obtain ⟨r, a, M', w9, hH, rfl, rfl, hw9⟩ := hp
  obtain ⟨v9, N', hm, hG', hra, hO⟩ := b_digit h hn hG hH
  refine PW.istore dL_law_213 (Nat.le_of_ble_eq_true rfl) rfl ?_
  refine PW.aload_n (i := 2) dL_law_215 rfl rfl ?_
  refine PW.aload_nA (i := 0) dL_law_216 rfl rfl ?_
  refine PW.iload dL_law_217 rfl ?_
  refine PW.iconst (v := 1) dL_law_219 (by decide) ?_
  refine PW.iadd dL_law_220 ?_
  refine PW.sld (n := 4 * n + 1) rfl dL_law_221 (nI_add _ 1) (by omega) (by omega) rfl ?_
  refine PW.aload_nA (i := 0) dL_law_222 rfl rfl ?_
  refine PW.iload dL_law_223 rfl ?_
  refine PW.iconst (v := 2) dL_law_225 (by decide) ?_
  refine PW.iadd dL_law_226 ?_
  refine PW.sld (n := 4 * n + 2) rfl dL_law_227 (nI_add _ 2) (by omega) (by omega) rfl ?_
  refine PW.callV (k := (kL_law b Ls xs)) (n := 2) (k' := kX5_digit) (hm _) dL_law_228 gL_law_X5_digit rfl hd_X5_digit rfl ⟨(Nat.le_of_ble_eq_true rfl), (Nat.le_of_ble_eq_true rfl)⟩ ⟨rfl, rfl⟩ (Nat.le_of_ble_eq_true rfl) ⟨Nat.le_trans (Nat.add_le_add_left (show 2 ≤ 3 by decide) cells) hc, Nat.le_trans (Nat.add_le_add_left (show 12 ≤ 18 by decide) slots) hs⟩ sm_mod (by decide) rfl rfl (fun v m9 hp => ?_) (fun _ _ hx => hx.elim)
  obtain ⟨rfl, rfl⟩ := hp
  refine PW.istore dL_law_231 (Nat.le_of_ble_eq_true rfl) rfl ?_
  refine PW.aload_n (i := 2) dL_law_233 rfl rfl ?_
  refine PW.callV (k := (kL_law b Ls xs)) (n := 0) c5_thrown dL_law_234 gL_law_X5_thrown rfl hd_X5_thrown rfl ⟨(Nat.le_of_ble_eq_true rfl), (Nat.le_of_ble_eq_true rfl)⟩ ⟨rfl, rfl⟩ (Nat.le_of_ble_eq_true rfl) ⟨Nat.le_trans (Nat.add_le_add_left (show 2 ≤ 3 by decide) cells) hc, Nat.le_trans (Nat.add_le_add_left (show 12 ≤ 18 by decide) slots) hs⟩ sm_mod (by decide) rfl rfl (fun v m9 hp => ?_) (fun _ _ hx => hx.elim)
  obtain ⟨rfl, rfl⟩ := hp
  refine PW.iload dL_law_237 rfl ?_
  refine PW.icmp_eq (tgt := 244) dL_law_239 (by decide) (fun _ => ?_) (fun q9 => absurd hG'.2.2.2 q9)
  refine PW.iload dL_law_244 rfl ?_
  refine PW.if_ne (tgt := 261) dL_law_246 (by decide) (fun _ => ?_) (fun q9 => ?_)
  · refine PW.goto (tgt := 928) dL_law_261 (by decide) ?_
    refine PW.forget lw_forget ?_
    exact PW.widen (Nat.add_le_add_left (show 2 ≤ 3 by decide) cells) (Nat.add_le_add_left (show 12 ≤ 18 by decide) slots) (kk M' N' w9 r hO hG')
  · refine PW.aload_n (i := 3) dL_law_249 rfl rfl ?_
    refine PW.iconst (v := 0) dL_law_250 (by decide) ?_
    refine PW.lald (n := 0) dL_law_251 sm_out rfl (by decide) rfl ?_
    refine PW.iload dL_law_252 rfl ?_
    refine PW.i2l dL_law_254 ?_
    refine PW.lcmpE dL_law_255 (by rw [hw9 q9, hra q9]) ?_
    refine PW.if_eq (tgt := 261) dL_law_256 (by decide) (fun _ => ?_) (fun q8 => absurd rfl q8)
    refine PW.goto (tgt := 928) dL_law_261 (by decide) ?_
    refine PW.forget lw_forget ?_
    exact PW.widen (Nat.add_le_add_left (show 2 ≤ 3 by decide) cells) (Nat.add_le_add_left (show 12 ≤ 18 by decide) slots) (kk M' N' w9 r hO hG')
