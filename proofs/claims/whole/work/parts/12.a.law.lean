/-! ===== the law ===== -/
theorem ClsS.ob {w : xW} {s : St} (h : ClsS w s) : ∃ fs, w 0 = xO 6 fs := by
  obtain ⟨-, wk, bk, bc, bg, H, -⟩ := h
  exact ⟨_, H.1⟩
theorem RefS.ob {w : xW} {s : St} (h : RefS w s) : ∃ fs, w 55 = xO 7 fs := by
  obtain ⟨-, -, ⟨_, _, _, _, _, _, _, _, _, _, _, _, h⟩, -⟩ := h
  exact ⟨_, h⟩
theorem ClsS.frR {w w2 : xW} {s : St} (h : ClsS w s) (hf : FrR w w2) : ClsS w2 s := by
  obtain ⟨hv, wk, bk, bc, bg, ⟨h0, ⟨at_, hs⟩, hp, ht, h7, h25, h31, h40, h49, h53⟩, hc⟩ := h
  exact ⟨hv, wk, bk, bc, bg, ⟨(hf 0 (by decide)).trans h0, ⟨at_, hs.fr (hf _ (by decide)) (hf _ (by decide))⟩, hp.fr (hf _ (by decide)) (hf _ (by decide)), ht.fr (hf _ (by decide)) (hf _ (by decide)), h7.fr (fun z z1 z2 => hf z (by omega)) (by decide), h25.fr (fun z z1 z2 => hf z (by omega)) (by decide), h31.fr (fun z z1 z2 => hf z (by omega)), h40.fr (fun z z1 z2 => hf z (by omega)), h49.fr (fun z z1 z2 => hf z (by omega)), h53.fr (hf _ (by decide)) (hf _ (by decide))⟩, hc.fr (fun z z1 z2 => hf z (by omega))⟩
theorem RefS.frO {w w2 : xW} {s : St} (h : RefS w s) (hf : FrO w w2) : RefS w2 s := by
  obtain ⟨hv, ⟨b1, b2, b3, b4, b5, b6, b7, b8⟩, ⟨pl, mn, pq, cv, sh, be, bg, bc, bp, pa, re, px, h0⟩, ⟨f, h1, hR⟩, ⟨g, h2, hU⟩, hu, ⟨kf, h3, hK⟩, hk, ⟨t, h4, ht⟩, hl⟩ := h
  exact ⟨hv, ⟨b1.fr (hf _ (by decide)), b2.fr (hf _ (by decide)), b3.fr (hf _ (by decide)), b4.fr (hf _ (by decide)), b5.fr (hf _ (by decide)), b6.fr (hf _ (by decide)), b7.fr (hf _ (by decide)), b8.fr (hf _ (by decide))⟩, ⟨pl, mn, pq, cv, sh, be, bg, bc, bp, pa, re, px, (hf _ (by decide)).trans h0⟩, ⟨f, (hf _ (by decide)).trans h1, hR⟩, ⟨g, (hf _ (by decide)).trans h2, hU⟩, hu, ⟨kf, (hf _ (by decide)).trans h3, hK⟩, hk, ⟨t, (hf _ (by decide)).trans h4, ht⟩, hl⟩
/-- what lies outside, for the law -/
def AmL (b N : Nat) (xs : Nat → Int32) (t1 t2 B : Nat) (s : State) : Prop := (va_X b N xs s s.heap ∧ b < s.heap.size ∧ ¬ B ≤ b) ∧ AmS t1 t2 B s
theorem AmL.x {b N : Nat} {xs : Nat → Int32} {t1 t2 : Nat} : ∀ B s, AmL b N xs t1 t2 B s → va_X b N xs s s.heap ∧ b < s.heap.size ∧ ¬ B ≤ b := fun _ _ h => h.1
theorem AmL.go {b N : Nat} {xs : Nat → Int32} {t1 t2 : Nat} : ∀ (B : Nat) (s U : State) (H : Heap) (locs : List Loc), AmL b N xs t1 t2 B s → xS B s H locs → U.heap = H → s.WarmedH U.vm → AmS t1 t2 B U := fun B s U H locs h => AmS.go B s U H locs h.2
section TOP
variable {Am : Nat → State → Prop} {X : xC} {Post : xP} {k j n : Nat} {w : xW} {pc : Nat} {L : List (Option xV)} {st : List xV}
theorem ez_top {i : Int} (kk : ∀ x, x = i → Ez Am X Post k j n w pc L (xi x :: st)) : Ez Am X Post k j n w pc L (xi i :: st) := kk _ rfl
end TOP
abbrev mL_law : xC := mkC yL_law cL_law 4 (some .boolean) 20 5000 68 26823
set_option maxHeartbeats 8000000 in
set_option maxRecDepth 100000 in
theorem law_go {w : xW} {b N t1 t2 : Nat} {xs : Nat → Int32} (hN : N ≤ 2048) : Ez (AmL b N xs t1 t2) mL_law (pZ (fun v _ => v = 1)) 0 0 0 w 0 [some (xo b), none, none, none] [] := by
  have loop : ∀ (d i : Nat), i ≤ N → N + 1 ≤ i + d → ∀ (w : xW) (s : St), ClsS w s → RefS w s → Ez (AmL b N xs t1 t2) mL_law (pZ (fun v _ => v = 1)) 68 26823 68 w 18 [some (xo b), some (xr 0), some (xr 55), some (xi i)] [] := by
    intro d
    induction d with
    | zero => intro i q1 q2; omega
    | succ d ih =>
      intro i q1 q2 w s hS hR
      obtain ⟨fx, h_x⟩ := hS.ob
      obtain ⟨fm, h_m⟩ := hR.ob
      refine ez_iload_n (pc := 18) dL_law_18 rfl ?_
      refine ez_aloado_n (pc := 19) dL_law_19 rfl ?_
      refine ez_slen (pc := 20) dL_law_20 AmL.x (by omega) ?_
      refine ez_iconst (pc := 21) dL_law_21 (by decide) ?_
      refine ez_isub (pc := 22) dL_law_22 (by unfold inI; omega) ?_
      refine ez_icmp_gt (pc := 23) dL_law_23 (tgt := 819) (by decide) (fun c23 => ?_) (fun c23 => ?_)
      · refine ez_iconst (pc := 819) dL_law_819 (by decide) ?_
        exact ez_zret (pc := 820) dL_law_820 ⟨Or.inr rfl, rfl⟩ rfl (Nat.le_refl _)
      · refine ez_aloado_n (pc := 26) dL_law_26 rfl ?_
        refine ez_iload_n (pc := 27) dL_law_27 rfl ?_
        refine ez_sld (pc := 28) dL_law_28 AmL.x (by omega) (by omega) ?_
        refine ez_bipush (pc := 29) dL_law_29 (by decide) ?_
        refine ez_iand (pc := 31) dL_law_31 ?_
        refine ez_top (fun sw hsw => ?_)
        by_cases q32_0 : sw = 0
        · refine ez_tableIn (pc := 32) dL_law_32 (by omega) (by omega) (off := 116) (tgt := 148) (by rw [q32_0]; rfl) (by decide) ?_
          refine ez_aload_n (pc := 148) dL_law_148 rfl ?_
          refine ez_aloado_n (pc := 149) dL_law_149 rfl ?_
          refine ez_iload_n (pc := 150) dL_law_150 rfl ?_
          refine ez_iconst (pc := 151) dL_law_151 (by decide) ?_
          refine ez_iadd (pc := 152) dL_law_152 (by unfold inI; omega) ?_
          refine ez_sld (pc := 153) dL_law_153 AmL.x (by omega) (by omega) ?_
          refine ez_callVI (as := [_]) (pc := 154) dL_law_154 (tX6_write hS) lk_L_13 ykX6_write vkX6_write h_x rfl rfl rfl (Nat.le_of_ble_eq_true rfl) ⟨by decide, by decide⟩ ⟨Nat.le_refl _, Nat.le_refl _⟩ (fun i154 w1 r154 p154 => ?_)
          obtain ⟨v154, hS1, f1⟩ := p154
          have hR1 := hR.frO f1
          obtain ⟨fm1, h1_m⟩ := hR1.ob
          have h1_x := h1_m
          refine ez_aload_n (pc := 157) dL_law_157 rfl ?_
          refine ez_aloado_n (pc := 158) dL_law_158 rfl ?_
          refine ez_iload_n (pc := 159) dL_law_159 rfl ?_
          refine ez_iconst (pc := 160) dL_law_160 (by decide) ?_
          refine ez_iadd (pc := 161) dL_law_161 (by unfold inI; omega) ?_
          refine ez_sld (pc := 162) dL_law_162 AmL.x (by omega) (by omega) ?_
          refine ez_callVI (as := [_]) (pc := 163) dL_law_163 (tX7_write hR1) lk_L_17 ykX7_write vkX7_write h1_m rfl rfl rfl (Nat.le_of_ble_eq_true rfl) ⟨by decide, by decide⟩ ⟨Nat.le_refl _, Nat.le_refl _⟩ (fun i163 w2 r163 p163 => ?_)
          obtain ⟨v163, hR2, f2⟩ := p163
          have hS2 := hS1.frR f2
          have h2_x := hR2
          have h2_m := hR2
          refine ez_icmp_eq (pc := 166) dL_law_166 (tgt := 813) (by decide) (fun c166 => ?_) (fun c166 => by exfalso; omega)
          refine ez_iinc (L2 := [_, _, _, _]) (pc := 813) dL_law_813 rfl rfl (Nat.le_of_ble_eq_true rfl) (by unfold inI; omega) rfl ?_
          refine ez_goto (pc := 816) dL_law_816 (tgt := 18) (by decide) ?_
          exact ih (i + 4) (by omega) (by omega) w2 _ hS2 hR2
        by_cases q32_1 : sw = 1
        · refine ez_tableIn (pc := 32) dL_law_32 (by omega) (by omega) (off := 139) (tgt := 171) (by rw [q32_1]; rfl) (by decide) ?_
          refine ez_aload_n (pc := 171) dL_law_171 rfl ?_
          refine ez_callVI (as := []) (pc := 172) dL_law_172 (tX6_wipe hS) lk_L_18 ykX6_wipe vkX6_wipe h_x rfl rfl rfl (Nat.le_of_ble_eq_true rfl) ⟨by decide, by decide⟩ ⟨Nat.le_refl _, Nat.le_refl _⟩ (fun i172 w1 r172 p172 => ?_)
          obtain ⟨v172, hS1, f1⟩ := p172
          have hR1 := hR.frO f1
          obtain ⟨fm1, h1_m⟩ := hR1.ob
          have h1_x := h1_m
          refine ez_aload_n (pc := 175) dL_law_175 rfl ?_
          refine ez_callVI (as := []) (pc := 176) dL_law_176 (tX7_wipe hR1) lk_L_22 ykX7_wipe vkX7_wipe h1_m rfl rfl rfl (Nat.le_of_ble_eq_true rfl) ⟨by decide, by decide⟩ ⟨Nat.le_refl _, Nat.le_refl _⟩ (fun i176 w2 r176 p176 => ?_)
          obtain ⟨v176, hR2, f2⟩ := p176
          have hS2 := hS1.frR f2
          have h2_x := hR2
          have h2_m := hR2
          refine ez_icmp_eq (pc := 179) dL_law_179 (tgt := 813) (by decide) (fun c179 => ?_) (fun c179 => by exfalso; omega)
          refine ez_iinc (L2 := [_, _, _, _]) (pc := 813) dL_law_813 rfl rfl (Nat.le_of_ble_eq_true rfl) (by unfold inI; omega) rfl ?_
          refine ez_goto (pc := 816) dL_law_816 (tgt := 18) (by decide) ?_
          exact ih (i + 4) (by omega) (by omega) w2 _ hS2 hR2
        by_cases q32_2 : sw = 2
        · refine ez_tableIn (pc := 32) dL_law_32 (by omega) (by omega) (off := 152) (tgt := 184) (by rw [q32_2]; rfl) (by decide) ?_
          refine ez_aload_n (pc := 184) dL_law_184 rfl ?_
          refine ez_callVI (as := []) (pc := 185) dL_law_185 (tX6_fault hS) lk_L_23 ykX6_fault vkX6_fault h_x rfl rfl rfl (Nat.le_of_ble_eq_true rfl) ⟨by decide, by decide⟩ ⟨Nat.le_refl _, Nat.le_refl _⟩ (fun i185 w1 r185 p185 => ?_)
          obtain ⟨v185, hS1, f1⟩ := p185
          have hR1 := hR.frO f1
          obtain ⟨fm1, h1_m⟩ := hR1.ob
          have h1_x := h1_m
          refine ez_aload_n (pc := 188) dL_law_188 rfl ?_
          refine ez_callVI (as := []) (pc := 189) dL_law_189 (tX7_fault hR1) lk_L_26 ykX7_fault vkX7_fault h1_m rfl rfl rfl (Nat.le_of_ble_eq_true rfl) ⟨by decide, by decide⟩ ⟨Nat.le_refl _, Nat.le_refl _⟩ (fun i189 w2 r189 p189 => ?_)
          obtain ⟨v189, hR2, f2⟩ := p189
          have hS2 := hS1.frR f2
          have h2_x := hR2
          have h2_m := hR2
          refine ez_icmp_eq (pc := 192) dL_law_192 (tgt := 813) (by decide) (fun c192 => ?_) (fun c192 => by exfalso; omega)
          refine ez_iinc (L2 := [_, _, _, _]) (pc := 813) dL_law_813 rfl rfl (Nat.le_of_ble_eq_true rfl) (by unfold inI; omega) rfl ?_
          refine ez_goto (pc := 816) dL_law_816 (tgt := 18) (by decide) ?_
          exact ih (i + 4) (by omega) (by omega) w2 _ hS2 hR2
        by_cases q32_3 : sw = 3
        · refine ez_tableIn (pc := 32) dL_law_32 (by omega) (by omega) (off := 165) (tgt := 197) (by rw [q32_3]; rfl) (by decide) ?_
          refine ez_aload_n (pc := 197) dL_law_197 rfl ?_
          refine ez_callVI (as := []) (pc := 198) dL_law_198 (tX6_lay hS) lk_L_27 ykX6_lay vkX6_lay h_x rfl rfl rfl (Nat.le_of_ble_eq_true rfl) ⟨by decide, by decide⟩ ⟨Nat.le_refl _, Nat.le_refl _⟩ (fun i198 w1 r198 p198 => ?_)
          obtain ⟨v198, hS1, f1⟩ := p198
          have hR1 := hR.frO f1
          obtain ⟨fm1, h1_m⟩ := hR1.ob
          have h1_x := h1_m
          refine ez_aload_n (pc := 201) dL_law_201 rfl ?_
          refine ez_callVI (as := []) (pc := 202) dL_law_202 (tX7_lay hR1) lk_L_30 ykX7_lay vkX7_lay h1_m rfl rfl rfl (Nat.le_of_ble_eq_true rfl) ⟨by decide, by decide⟩ ⟨Nat.le_refl _, Nat.le_refl _⟩ (fun i202 w2 r202 p202 => ?_)
          obtain ⟨v202, hR2, f2⟩ := p202
          have hS2 := hS1.frR f2
          have h2_x := hR2
          have h2_m := hR2
          refine ez_icmp_eq (pc := 205) dL_law_205 (tgt := 813) (by decide) (fun c205 => ?_) (fun c205 => by exfalso; omega)
          refine ez_iinc (L2 := [_, _, _, _]) (pc := 813) dL_law_813 rfl rfl (Nat.le_of_ble_eq_true rfl) (by unfold inI; omega) rfl ?_
          refine ez_goto (pc := 816) dL_law_816 (tgt := 18) (by decide) ?_
          exact ih (i + 4) (by omega) (by omega) w2 _ hS2 hR2
        by_cases q32_4 : sw = 4
        · refine ez_tableIn (pc := 32) dL_law_32 (by omega) (by omega) (off := 178) (tgt := 210) (by rw [q32_4]; rfl) (by decide) ?_
          refine ez_aload_n (pc := 210) dL_law_210 rfl ?_
          refine ez_aloado_n (pc := 211) dL_law_211 rfl ?_
          refine ez_iload_n (pc := 212) dL_law_212 rfl ?_
          refine ez_iconst (pc := 213) dL_law_213 (by decide) ?_
          refine ez_iadd (pc := 214) dL_law_214 (by unfold inI; omega) ?_
          refine ez_sld (pc := 215) dL_law_215 AmL.x (by omega) (by omega) ?_
          refine ez_aloado_n (pc := 216) dL_law_216 rfl ?_
          refine ez_iload_n (pc := 217) dL_law_217 rfl ?_
          refine ez_iconst (pc := 218) dL_law_218 (by decide) ?_
          refine ez_iadd (pc := 219) dL_law_219 (by unfold inI; omega) ?_
          refine ez_sld (pc := 220) dL_law_220 AmL.x (by omega) (by omega) ?_
          refine ez_callVI (as := [_, _]) (pc := 221) dL_law_221 (tX6_note hS) lk_L_31 ykX6_note vkX6_note h_x rfl rfl rfl (Nat.le_of_ble_eq_true rfl) ⟨by decide, by decide⟩ ⟨Nat.le_refl _, Nat.le_refl _⟩ (fun i221 w1 r221 p221 => ?_)
          obtain ⟨v221, hS1, f1⟩ := p221
          have hR1 := hR.frO f1
          obtain ⟨fm1, h1_m⟩ := hR1.ob
          have h1_x := h1_m
          refine ez_aload_n (pc := 224) dL_law_224 rfl ?_
          refine ez_aloado_n (pc := 225) dL_law_225 rfl ?_
          refine ez_iload_n (pc := 226) dL_law_226 rfl ?_
          refine ez_iconst (pc := 227) dL_law_227 (by decide) ?_
          refine ez_iadd (pc := 228) dL_law_228 (by unfold inI; omega) ?_
          refine ez_sld (pc := 229) dL_law_229 AmL.x (by omega) (by omega) ?_
          refine ez_aloado_n (pc := 230) dL_law_230 rfl ?_
          refine ez_iload_n (pc := 231) dL_law_231 rfl ?_
          refine ez_iconst (pc := 232) dL_law_232 (by decide) ?_
          refine ez_iadd (pc := 233) dL_law_233 (by unfold inI; omega) ?_
          refine ez_sld (pc := 234) dL_law_234 AmL.x (by omega) (by omega) ?_
          refine ez_callVI (as := [_, _]) (pc := 235) dL_law_235 (tX7_note hR1) lk_L_35 ykX7_note vkX7_note h1_m rfl rfl rfl (Nat.le_of_ble_eq_true rfl) ⟨by decide, by decide⟩ ⟨Nat.le_refl _, Nat.le_refl _⟩ (fun i235 w2 r235 p235 => ?_)
          obtain ⟨v235, hR2, f2⟩ := p235
          have hS2 := hS1.frR f2
          have h2_x := hR2
          have h2_m := hR2
          refine ez_icmp_eq (pc := 238) dL_law_238 (tgt := 813) (by decide) (fun c238 => ?_) (fun c238 => by exfalso; omega)
          refine ez_iinc (L2 := [_, _, _, _]) (pc := 813) dL_law_813 rfl rfl (Nat.le_of_ble_eq_true rfl) (by unfold inI; omega) rfl ?_
          refine ez_goto (pc := 816) dL_law_816 (tgt := 18) (by decide) ?_
          exact ih (i + 4) (by omega) (by omega) w2 _ hS2 hR2
        by_cases q32_5 : sw = 5
        · refine ez_tableIn (pc := 32) dL_law_32 (by omega) (by omega) (off := 211) (tgt := 243) (by rw [q32_5]; rfl) (by decide) ?_
          refine ez_aload_n (pc := 243) dL_law_243 rfl ?_
          refine ez_aloado_n (pc := 244) dL_law_244 rfl ?_
          refine ez_iload_n (pc := 245) dL_law_245 rfl ?_
          refine ez_iconst (pc := 246) dL_law_246 (by decide) ?_
          refine ez_iadd (pc := 247) dL_law_247 (by unfold inI; omega) ?_
          refine ez_sld (pc := 248) dL_law_248 AmL.x (by omega) (by omega) ?_
          refine ez_aloado_n (pc := 249) dL_law_249 rfl ?_
          refine ez_iload_n (pc := 250) dL_law_250 rfl ?_
          refine ez_iconst (pc := 251) dL_law_251 (by decide) ?_
          refine ez_iadd (pc := 252) dL_law_252 (by unfold inI; omega) ?_
          refine ez_sld (pc := 253) dL_law_253 AmL.x (by omega) (by omega) ?_
          refine ez_callVI (as := [_, _]) (pc := 254) dL_law_254 (tX6_put hS) lk_L_36 ykX6_put vkX6_put h_x rfl rfl rfl (Nat.le_of_ble_eq_true rfl) ⟨by decide, by decide⟩ ⟨Nat.le_refl _, Nat.le_refl _⟩ (fun i254 w1 r254 p254 => ?_)
          obtain ⟨v254, hS1, f1⟩ := p254
          have hR1 := hR.frO f1
          obtain ⟨fm1, h1_m⟩ := hR1.ob
          have h1_x := h1_m
          refine ez_aload_n (pc := 257) dL_law_257 rfl ?_
          refine ez_aloado_n (pc := 258) dL_law_258 rfl ?_
          refine ez_iload_n (pc := 259) dL_law_259 rfl ?_
          refine ez_iconst (pc := 260) dL_law_260 (by decide) ?_
          refine ez_iadd (pc := 261) dL_law_261 (by unfold inI; omega) ?_
          refine ez_sld (pc := 262) dL_law_262 AmL.x (by omega) (by omega) ?_
          refine ez_aloado_n (pc := 263) dL_law_263 rfl ?_
          refine ez_iload_n (pc := 264) dL_law_264 rfl ?_
          refine ez_iconst (pc := 265) dL_law_265 (by decide) ?_
          refine ez_iadd (pc := 266) dL_law_266 (by unfold inI; omega) ?_
          refine ez_sld (pc := 267) dL_law_267 AmL.x (by omega) (by omega) ?_
          refine ez_callVI (as := [_, _]) (pc := 268) dL_law_268 (tX7_put hR1) lk_L_39 ykX7_put vkX7_put h1_m rfl rfl rfl (Nat.le_of_ble_eq_true rfl) ⟨by decide, by decide⟩ ⟨Nat.le_refl _, Nat.le_refl _⟩ (fun i268 w2 r268 p268 => ?_)
          obtain ⟨v268, hR2, f2⟩ := p268
          have hS2 := hS1.frR f2
          have h2_x := hR2
          have h2_m := hR2
          refine ez_icmp_eq (pc := 271) dL_law_271 (tgt := 813) (by decide) (fun c271 => ?_) (fun c271 => by exfalso; omega)
          refine ez_iinc (L2 := [_, _, _, _]) (pc := 813) dL_law_813 rfl rfl (Nat.le_of_ble_eq_true rfl) (by unfold inI; omega) rfl ?_
          refine ez_goto (pc := 816) dL_law_816 (tgt := 18) (by decide) ?_
          exact ih (i + 4) (by omega) (by omega) w2 _ hS2 hR2
        by_cases q32_6 : sw = 6
        · refine ez_tableIn (pc := 32) dL_law_32 (by omega) (by omega) (off := 244) (tgt := 276) (by rw [q32_6]; rfl) (by decide) ?_
          refine ez_aload_n (pc := 276) dL_law_276 rfl ?_
          refine ez_aloado_n (pc := 277) dL_law_277 rfl ?_
          refine ez_iload_n (pc := 278) dL_law_278 rfl ?_
          refine ez_iconst (pc := 279) dL_law_279 (by decide) ?_
          refine ez_iadd (pc := 280) dL_law_280 (by unfold inI; omega) ?_
          refine ez_sld (pc := 281) dL_law_281 AmL.x (by omega) (by omega) ?_
          refine ez_callVI (as := [_]) (pc := 282) dL_law_282 (tX6_take hS) lk_L_40 ykX6_take vkX6_take h_x rfl rfl rfl (Nat.le_of_ble_eq_true rfl) ⟨by decide, by decide⟩ ⟨Nat.le_refl _, Nat.le_refl _⟩ (fun i282 w1 r282 p282 => ?_)
          obtain ⟨v282, hS1, f1⟩ := p282
          have hR1 := hR.frO f1
          obtain ⟨fm1, h1_m⟩ := hR1.ob
          have h1_x := h1_m
          refine ez_aload_n (pc := 285) dL_law_285 rfl ?_
          refine ez_aloado_n (pc := 286) dL_law_286 rfl ?_
          refine ez_iload_n (pc := 287) dL_law_287 rfl ?_
          refine ez_iconst (pc := 288) dL_law_288 (by decide) ?_
          refine ez_iadd (pc := 289) dL_law_289 (by unfold inI; omega) ?_
          refine ez_sld (pc := 290) dL_law_290 AmL.x (by omega) (by omega) ?_
          refine ez_callVI (as := [_]) (pc := 291) dL_law_291 (tX7_take hR1) lk_L_43 ykX7_take vkX7_take h1_m rfl rfl rfl (Nat.le_of_ble_eq_true rfl) ⟨by decide, by decide⟩ ⟨Nat.le_refl _, Nat.le_refl _⟩ (fun i291 w2 r291 p291 => ?_)
          obtain ⟨v291, hR2, f2⟩ := p291
          have hS2 := hS1.frR f2
          have h2_x := hR2
          have h2_m := hR2
          refine ez_icmp_eq (pc := 294) dL_law_294 (tgt := 813) (by decide) (fun c294 => ?_) (fun c294 => by exfalso; omega)
          refine ez_iinc (L2 := [_, _, _, _]) (pc := 813) dL_law_813 rfl rfl (Nat.le_of_ble_eq_true rfl) (by unfold inI; omega) rfl ?_
          refine ez_goto (pc := 816) dL_law_816 (tgt := 18) (by decide) ?_
          exact ih (i + 4) (by omega) (by omega) w2 _ hS2 hR2
        by_cases q32_7 : sw = 7
        · refine ez_tableIn (pc := 32) dL_law_32 (by omega) (by omega) (off := 267) (tgt := 299) (by rw [q32_7]; rfl) (by decide) ?_
          refine ez_aload_n (pc := 299) dL_law_299 rfl ?_
          refine ez_aloado_n (pc := 300) dL_law_300 rfl ?_
          refine ez_iload_n (pc := 301) dL_law_301 rfl ?_
          refine ez_iconst (pc := 302) dL_law_302 (by decide) ?_
          refine ez_iadd (pc := 303) dL_law_303 (by unfold inI; omega) ?_
          refine ez_sld (pc := 304) dL_law_304 AmL.x (by omega) (by omega) ?_
          refine ez_aloado_n (pc := 305) dL_law_305 rfl ?_
          refine ez_iload_n (pc := 306) dL_law_306 rfl ?_
          refine ez_iconst (pc := 307) dL_law_307 (by decide) ?_
          refine ez_iadd (pc := 308) dL_law_308 (by unfold inI; omega) ?_
          refine ez_sld (pc := 309) dL_law_309 AmL.x (by omega) (by omega) ?_
          refine ez_aloado_n (pc := 310) dL_law_310 rfl ?_
          refine ez_iload_n (pc := 311) dL_law_311 rfl ?_
          refine ez_iconst (pc := 312) dL_law_312 (by decide) ?_
          refine ez_iadd (pc := 313) dL_law_313 (by unfold inI; omega) ?_
          refine ez_sld (pc := 314) dL_law_314 AmL.x (by omega) (by omega) ?_
          refine ez_callVI (as := [_, _, _]) (pc := 315) dL_law_315 (tX6_shift hS) lk_L_44 ykX6_shift vkX6_shift h_x rfl rfl rfl (Nat.le_of_ble_eq_true rfl) ⟨by decide, by decide⟩ ⟨Nat.le_refl _, Nat.le_refl _⟩ (fun i315 w1 r315 p315 => ?_)
          obtain ⟨v315, hS1, f1⟩ := p315
          have hR1 := hR.frO f1
          obtain ⟨fm1, h1_m⟩ := hR1.ob
          have h1_x := h1_m
          refine ez_aload_n (pc := 318) dL_law_318 rfl ?_
          refine ez_aloado_n (pc := 319) dL_law_319 rfl ?_
          refine ez_iload_n (pc := 320) dL_law_320 rfl ?_
          refine ez_iconst (pc := 321) dL_law_321 (by decide) ?_
          refine ez_iadd (pc := 322) dL_law_322 (by unfold inI; omega) ?_
          refine ez_sld (pc := 323) dL_law_323 AmL.x (by omega) (by omega) ?_
          refine ez_aloado_n (pc := 324) dL_law_324 rfl ?_
          refine ez_iload_n (pc := 325) dL_law_325 rfl ?_
          refine ez_iconst (pc := 326) dL_law_326 (by decide) ?_
          refine ez_iadd (pc := 327) dL_law_327 (by unfold inI; omega) ?_
          refine ez_sld (pc := 328) dL_law_328 AmL.x (by omega) (by omega) ?_
          refine ez_aloado_n (pc := 329) dL_law_329 rfl ?_
          refine ez_iload_n (pc := 330) dL_law_330 rfl ?_
          refine ez_iconst (pc := 331) dL_law_331 (by decide) ?_
          refine ez_iadd (pc := 332) dL_law_332 (by unfold inI; omega) ?_
          refine ez_sld (pc := 333) dL_law_333 AmL.x (by omega) (by omega) ?_
          refine ez_callVI (as := [_, _, _]) (pc := 334) dL_law_334 (tX7_shift hR1) lk_L_48 ykX7_shift vkX7_shift h1_m rfl rfl rfl (Nat.le_of_ble_eq_true rfl) ⟨by decide, by decide⟩ ⟨Nat.le_refl _, Nat.le_refl _⟩ (fun i334 w2 r334 p334 => ?_)
          obtain ⟨v334, hR2, f2⟩ := p334
          have hS2 := hS1.frR f2
          have h2_x := hR2
          have h2_m := hR2
          refine ez_icmp_eq (pc := 337) dL_law_337 (tgt := 813) (by decide) (fun c337 => ?_) (fun c337 => by exfalso; omega)
          refine ez_iinc (L2 := [_, _, _, _]) (pc := 813) dL_law_813 rfl rfl (Nat.le_of_ble_eq_true rfl) (by unfold inI; omega) rfl ?_
          refine ez_goto (pc := 816) dL_law_816 (tgt := 18) (by decide) ?_
          exact ih (i + 4) (by omega) (by omega) w2 _ hS2 hR2
        by_cases q32_8 : sw = 8
        · refine ez_tableIn (pc := 32) dL_law_32 (by omega) (by omega) (off := 310) (tgt := 342) (by rw [q32_8]; rfl) (by decide) ?_
          refine ez_aload_n (pc := 342) dL_law_342 rfl ?_
          refine ez_aloado_n (pc := 343) dL_law_343 rfl ?_
          refine ez_iload_n (pc := 344) dL_law_344 rfl ?_
          refine ez_iconst (pc := 345) dL_law_345 (by decide) ?_
          refine ez_iadd (pc := 346) dL_law_346 (by unfold inI; omega) ?_
          refine ez_sld (pc := 347) dL_law_347 AmL.x (by omega) (by omega) ?_
          refine ez_aloado_n (pc := 348) dL_law_348 rfl ?_
          refine ez_iload_n (pc := 349) dL_law_349 rfl ?_
          refine ez_iconst (pc := 350) dL_law_350 (by decide) ?_
          refine ez_iadd (pc := 351) dL_law_351 (by unfold inI; omega) ?_
          refine ez_sld (pc := 352) dL_law_352 AmL.x (by omega) (by omega) ?_
          refine ez_callVI (as := [_, _]) (pc := 353) dL_law_353 (tX6_shiftAll hS) lk_L_49 ykX6_shiftAll vkX6_shiftAll h_x rfl rfl rfl (Nat.le_of_ble_eq_true rfl) ⟨by decide, by decide⟩ ⟨Nat.le_refl _, Nat.le_refl _⟩ (fun i353 w1 r353 p353 => ?_)
          obtain ⟨v353, hS1, f1⟩ := p353
          have hR1 := hR.frO f1
          obtain ⟨fm1, h1_m⟩ := hR1.ob
          have h1_x := h1_m
          refine ez_aload_n (pc := 356) dL_law_356 rfl ?_
          refine ez_aloado_n (pc := 357) dL_law_357 rfl ?_
          refine ez_iload_n (pc := 358) dL_law_358 rfl ?_
          refine ez_iconst (pc := 359) dL_law_359 (by decide) ?_
          refine ez_iadd (pc := 360) dL_law_360 (by unfold inI; omega) ?_
          refine ez_sld (pc := 361) dL_law_361 AmL.x (by omega) (by omega) ?_
          refine ez_aloado_n (pc := 362) dL_law_362 rfl ?_
          refine ez_iload_n (pc := 363) dL_law_363 rfl ?_
          refine ez_iconst (pc := 364) dL_law_364 (by decide) ?_
          refine ez_iadd (pc := 365) dL_law_365 (by unfold inI; omega) ?_
          refine ez_sld (pc := 366) dL_law_366 AmL.x (by omega) (by omega) ?_
          refine ez_callVI (as := [_, _]) (pc := 367) dL_law_367 (tX7_shiftAll hR1) lk_L_52 ykX7_shiftAll vkX7_shiftAll h1_m rfl rfl rfl (Nat.le_of_ble_eq_true rfl) ⟨by decide, by decide⟩ ⟨Nat.le_refl _, Nat.le_refl _⟩ (fun i367 w2 r367 p367 => ?_)
          obtain ⟨v367, hR2, f2⟩ := p367
          have hS2 := hS1.frR f2
          have h2_x := hR2
          have h2_m := hR2
          refine ez_icmp_eq (pc := 370) dL_law_370 (tgt := 813) (by decide) (fun c370 => ?_) (fun c370 => by exfalso; omega)
          refine ez_iinc (L2 := [_, _, _, _]) (pc := 813) dL_law_813 rfl rfl (Nat.le_of_ble_eq_true rfl) (by unfold inI; omega) rfl ?_
          refine ez_goto (pc := 816) dL_law_816 (tgt := 18) (by decide) ?_
          exact ih (i + 4) (by omega) (by omega) w2 _ hS2 hR2
        by_cases q32_9 : sw = 9
        · refine ez_tableIn (pc := 32) dL_law_32 (by omega) (by omega) (off := 343) (tgt := 375) (by rw [q32_9]; rfl) (by decide) ?_
          refine ez_aload_n (pc := 375) dL_law_375 rfl ?_
          refine ez_aloado_n (pc := 376) dL_law_376 rfl ?_
          refine ez_iload_n (pc := 377) dL_law_377 rfl ?_
          refine ez_iconst (pc := 378) dL_law_378 (by decide) ?_
          refine ez_iadd (pc := 379) dL_law_379 (by unfold inI; omega) ?_
          refine ez_sld (pc := 380) dL_law_380 AmL.x (by omega) (by omega) ?_
          refine ez_callVI (as := [_]) (pc := 381) dL_law_381 (tX6_mode hS) lk_L_53 ykX6_mode vkX6_mode h_x rfl rfl rfl (Nat.le_of_ble_eq_true rfl) ⟨by decide, by decide⟩ ⟨Nat.le_refl _, Nat.le_refl _⟩ (fun i381 w1 r381 p381 => ?_)
          obtain ⟨v381, hS1, f1⟩ := p381
          have hR1 := hR.frO f1
          obtain ⟨fm1, h1_m⟩ := hR1.ob
          have h1_x := h1_m
          refine ez_aload_n (pc := 384) dL_law_384 rfl ?_
          refine ez_aloado_n (pc := 385) dL_law_385 rfl ?_
          refine ez_iload_n (pc := 386) dL_law_386 rfl ?_
          refine ez_iconst (pc := 387) dL_law_387 (by decide) ?_
          refine ez_iadd (pc := 388) dL_law_388 (by unfold inI; omega) ?_
          refine ez_sld (pc := 389) dL_law_389 AmL.x (by omega) (by omega) ?_
          refine ez_callVI (as := [_]) (pc := 390) dL_law_390 (tX7_mode hR1) lk_L_56 ykX7_mode vkX7_mode h1_m rfl rfl rfl (Nat.le_of_ble_eq_true rfl) ⟨by decide, by decide⟩ ⟨Nat.le_refl _, Nat.le_refl _⟩ (fun i390 w2 r390 p390 => ?_)
          obtain ⟨v390, hR2, f2⟩ := p390
          have hS2 := hS1.frR f2
          have h2_x := hR2
          have h2_m := hR2
          refine ez_icmp_eq (pc := 393) dL_law_393 (tgt := 813) (by decide) (fun c393 => ?_) (fun c393 => by exfalso; omega)
          refine ez_iinc (L2 := [_, _, _, _]) (pc := 813) dL_law_813 rfl rfl (Nat.le_of_ble_eq_true rfl) (by unfold inI; omega) rfl ?_
          refine ez_goto (pc := 816) dL_law_816 (tgt := 18) (by decide) ?_
          exact ih (i + 4) (by omega) (by omega) w2 _ hS2 hR2
        by_cases q32_10 : sw = 10
        · refine ez_tableIn (pc := 32) dL_law_32 (by omega) (by omega) (off := 366) (tgt := 398) (by rw [q32_10]; rfl) (by decide) ?_
          refine ez_aload_n (pc := 398) dL_law_398 rfl ?_
          refine ez_callVI (as := []) (pc := 399) dL_law_399 (tX6_undo hS) lk_L_57 ykX6_undo vkX6_undo h_x rfl rfl rfl (Nat.le_of_ble_eq_true rfl) ⟨by decide, by decide⟩ ⟨Nat.le_refl _, Nat.le_refl _⟩ (fun i399 w1 r399 p399 => ?_)
          obtain ⟨v399, hS1, f1⟩ := p399
          have hR1 := hR.frO f1
          obtain ⟨fm1, h1_m⟩ := hR1.ob
          have h1_x := h1_m
          refine ez_aload_n (pc := 402) dL_law_402 rfl ?_
          refine ez_callVI (as := []) (pc := 403) dL_law_403 (tX7_undo hR1) lk_L_60 ykX7_undo vkX7_undo h1_m rfl rfl rfl (Nat.le_of_ble_eq_true rfl) ⟨by decide, by decide⟩ ⟨Nat.le_refl _, Nat.le_refl _⟩ (fun i403 w2 r403 p403 => ?_)
          obtain ⟨v403, hR2, f2⟩ := p403
          have hS2 := hS1.frR f2
          have h2_x := hR2
          have h2_m := hR2
          refine ez_icmp_eq (pc := 406) dL_law_406 (tgt := 813) (by decide) (fun c406 => ?_) (fun c406 => by exfalso; omega)
          refine ez_iinc (L2 := [_, _, _, _]) (pc := 813) dL_law_813 rfl rfl (Nat.le_of_ble_eq_true rfl) (by unfold inI; omega) rfl ?_
          refine ez_goto (pc := 816) dL_law_816 (tgt := 18) (by decide) ?_
          exact ih (i + 4) (by omega) (by omega) w2 _ hS2 hR2
        by_cases q32_11 : sw = 11
        · refine ez_tableIn (pc := 32) dL_law_32 (by omega) (by omega) (off := 379) (tgt := 411) (by rw [q32_11]; rfl) (by decide) ?_
          refine ez_aload_n (pc := 411) dL_law_411 rfl ?_
          refine ez_aloado_n (pc := 412) dL_law_412 rfl ?_
          refine ez_iload_n (pc := 413) dL_law_413 rfl ?_
          refine ez_iconst (pc := 414) dL_law_414 (by decide) ?_
          refine ez_iadd (pc := 415) dL_law_415 (by unfold inI; omega) ?_
          refine ez_sld (pc := 416) dL_law_416 AmL.x (by omega) (by omega) ?_
          refine ez_aloado_n (pc := 417) dL_law_417 rfl ?_
          refine ez_iload_n (pc := 418) dL_law_418 rfl ?_
          refine ez_iconst (pc := 419) dL_law_419 (by decide) ?_
          refine ez_iadd (pc := 420) dL_law_420 (by unfold inI; omega) ?_
          refine ez_sld (pc := 421) dL_law_421 AmL.x (by omega) (by omega) ?_
          refine ez_callVI (as := [_, _]) (pc := 422) dL_law_422 (tX6_largest hS) lk_L_61 ykX6_largest vkX6_largest h_x rfl rfl rfl (Nat.le_of_ble_eq_true rfl) ⟨by decide, by decide⟩ ⟨Nat.le_refl _, Nat.le_refl _⟩ (fun i422 w1 r422 p422 => ?_)
          obtain ⟨v422, hS1, f1⟩ := p422
          have hR1 := hR.frO f1
          obtain ⟨fm1, h1_m⟩ := hR1.ob
          have h1_x := h1_m
          refine ez_aload_n (pc := 425) dL_law_425 rfl ?_
          refine ez_aloado_n (pc := 426) dL_law_426 rfl ?_
          refine ez_iload_n (pc := 427) dL_law_427 rfl ?_
          refine ez_iconst (pc := 428) dL_law_428 (by decide) ?_
          refine ez_iadd (pc := 429) dL_law_429 (by unfold inI; omega) ?_
          refine ez_sld (pc := 430) dL_law_430 AmL.x (by omega) (by omega) ?_
          refine ez_aloado_n (pc := 431) dL_law_431 rfl ?_
          refine ez_iload_n (pc := 432) dL_law_432 rfl ?_
          refine ez_iconst (pc := 433) dL_law_433 (by decide) ?_
          refine ez_iadd (pc := 434) dL_law_434 (by unfold inI; omega) ?_
          refine ez_sld (pc := 435) dL_law_435 AmL.x (by omega) (by omega) ?_
          refine ez_callVI (as := [_, _]) (pc := 436) dL_law_436 (tX7_largest hR1) lk_L_64 ykX7_largest vkX7_largest h1_m rfl rfl rfl (Nat.le_of_ble_eq_true rfl) ⟨by decide, by decide⟩ ⟨Nat.le_refl _, Nat.le_refl _⟩ (fun i436 w2 r436 p436 => ?_)
          obtain ⟨v436, hR2, f2⟩ := p436
          have hS2 := hS1.frR f2
          have h2_x := hR2
          have h2_m := hR2
          refine ez_icmp_eq (pc := 439) dL_law_439 (tgt := 813) (by decide) (fun c439 => ?_) (fun c439 => by exfalso; omega)
          refine ez_iinc (L2 := [_, _, _, _]) (pc := 813) dL_law_813 rfl rfl (Nat.le_of_ble_eq_true rfl) (by unfold inI; omega) rfl ?_
          refine ez_goto (pc := 816) dL_law_816 (tgt := 18) (by decide) ?_
          exact ih (i + 4) (by omega) (by omega) w2 _ hS2 hR2
        by_cases q32_12 : sw = 12
        · refine ez_tableIn (pc := 32) dL_law_32 (by omega) (by omega) (off := 412) (tgt := 444) (by rw [q32_12]; rfl) (by decide) ?_
          refine ez_aload_n (pc := 444) dL_law_444 rfl ?_
          refine ez_aloado_n (pc := 445) dL_law_445 rfl ?_
          refine ez_iload_n (pc := 446) dL_law_446 rfl ?_
          refine ez_iconst (pc := 447) dL_law_447 (by decide) ?_
          refine ez_iadd (pc := 448) dL_law_448 (by unfold inI; omega) ?_
          refine ez_sld (pc := 449) dL_law_449 AmL.x (by omega) (by omega) ?_
          refine ez_aloado_n (pc := 450) dL_law_450 rfl ?_
          refine ez_iload_n (pc := 451) dL_law_451 rfl ?_
          refine ez_iconst (pc := 452) dL_law_452 (by decide) ?_
          refine ez_iadd (pc := 453) dL_law_453 (by unfold inI; omega) ?_
          refine ez_sld (pc := 454) dL_law_454 AmL.x (by omega) (by omega) ?_
          refine ez_aloado_n (pc := 455) dL_law_455 rfl ?_
          refine ez_iload_n (pc := 456) dL_law_456 rfl ?_
          refine ez_iconst (pc := 457) dL_law_457 (by decide) ?_
          refine ez_iadd (pc := 458) dL_law_458 (by unfold inI; omega) ?_
          refine ez_sld (pc := 459) dL_law_459 AmL.x (by omega) (by omega) ?_
          refine ez_callVI (as := [_, _, _]) (pc := 460) dL_law_460 (tX6_meets hS) lk_L_65 ykX6_meets vkX6_meets h_x rfl rfl rfl (Nat.le_of_ble_eq_true rfl) ⟨by decide, by decide⟩ ⟨Nat.le_refl _, Nat.le_refl _⟩ (fun i460 w1 r460 p460 => ?_)
          obtain ⟨v460, hS1, f1⟩ := p460
          have hR1 := hR.frO f1
          obtain ⟨fm1, h1_m⟩ := hR1.ob
          have h1_x := h1_m
          refine ez_aload_n (pc := 463) dL_law_463 rfl ?_
          refine ez_aloado_n (pc := 464) dL_law_464 rfl ?_
          refine ez_iload_n (pc := 465) dL_law_465 rfl ?_
          refine ez_iconst (pc := 466) dL_law_466 (by decide) ?_
          refine ez_iadd (pc := 467) dL_law_467 (by unfold inI; omega) ?_
          refine ez_sld (pc := 468) dL_law_468 AmL.x (by omega) (by omega) ?_
          refine ez_aloado_n (pc := 469) dL_law_469 rfl ?_
          refine ez_iload_n (pc := 470) dL_law_470 rfl ?_
          refine ez_iconst (pc := 471) dL_law_471 (by decide) ?_
          refine ez_iadd (pc := 472) dL_law_472 (by unfold inI; omega) ?_
          refine ez_sld (pc := 473) dL_law_473 AmL.x (by omega) (by omega) ?_
          refine ez_aloado_n (pc := 474) dL_law_474 rfl ?_
          refine ez_iload_n (pc := 475) dL_law_475 rfl ?_
          refine ez_iconst (pc := 476) dL_law_476 (by decide) ?_
          refine ez_iadd (pc := 477) dL_law_477 (by unfold inI; omega) ?_
          refine ez_sld (pc := 478) dL_law_478 AmL.x (by omega) (by omega) ?_
          refine ez_callVI (as := [_, _, _]) (pc := 479) dL_law_479 (tX7_meets hR1) lk_L_68 ykX7_meets vkX7_meets h1_m rfl rfl rfl (Nat.le_of_ble_eq_true rfl) ⟨by decide, by decide⟩ ⟨Nat.le_refl _, Nat.le_refl _⟩ (fun i479 w2 r479 p479 => ?_)
          obtain ⟨v479, hR2, f2⟩ := p479
          have hS2 := hS1.frR f2
          have h2_x := hR2
          have h2_m := hR2
          refine ez_icmp_eq (pc := 482) dL_law_482 (tgt := 813) (by decide) (fun c482 => ?_) (fun c482 => by exfalso; omega)
          refine ez_iinc (L2 := [_, _, _, _]) (pc := 813) dL_law_813 rfl rfl (Nat.le_of_ble_eq_true rfl) (by unfold inI; omega) rfl ?_
          refine ez_goto (pc := 816) dL_law_816 (tgt := 18) (by decide) ?_
          exact ih (i + 4) (by omega) (by omega) w2 _ hS2 hR2
        by_cases q32_13 : sw = 13
        · refine ez_tableIn (pc := 32) dL_law_32 (by omega) (by omega) (off := 455) (tgt := 487) (by rw [q32_13]; rfl) (by decide) ?_
          refine ez_aload_n (pc := 487) dL_law_487 rfl ?_
          refine ez_aloado_n (pc := 488) dL_law_488 rfl ?_
          refine ez_iload_n (pc := 489) dL_law_489 rfl ?_
          refine ez_iconst (pc := 490) dL_law_490 (by decide) ?_
          refine ez_iadd (pc := 491) dL_law_491 (by unfold inI; omega) ?_
          refine ez_sld (pc := 492) dL_law_492 AmL.x (by omega) (by omega) ?_
          refine ez_aloado_n (pc := 493) dL_law_493 rfl ?_
          refine ez_iload_n (pc := 494) dL_law_494 rfl ?_
          refine ez_iconst (pc := 495) dL_law_495 (by decide) ?_
          refine ez_iadd (pc := 496) dL_law_496 (by unfold inI; omega) ?_
          refine ez_sld (pc := 497) dL_law_497 AmL.x (by omega) (by omega) ?_
          refine ez_callVI (as := [_, _]) (pc := 498) dL_law_498 (tX6_shape hS) lk_L_69 ykX6_shape vkX6_shape h_x rfl rfl rfl (Nat.le_of_ble_eq_true rfl) ⟨by decide, by decide⟩ ⟨Nat.le_refl _, Nat.le_refl _⟩ (fun i498 w1 r498 p498 => ?_)
          obtain ⟨v498, hS1, f1⟩ := p498
          have hR1 := hR.frO f1
          obtain ⟨fm1, h1_m⟩ := hR1.ob
          have h1_x := h1_m
          refine ez_aload_n (pc := 501) dL_law_501 rfl ?_
          refine ez_aloado_n (pc := 502) dL_law_502 rfl ?_
          refine ez_iload_n (pc := 503) dL_law_503 rfl ?_
          refine ez_iconst (pc := 504) dL_law_504 (by decide) ?_
          refine ez_iadd (pc := 505) dL_law_505 (by unfold inI; omega) ?_
          refine ez_sld (pc := 506) dL_law_506 AmL.x (by omega) (by omega) ?_
          refine ez_aloado_n (pc := 507) dL_law_507 rfl ?_
          refine ez_iload_n (pc := 508) dL_law_508 rfl ?_
          refine ez_iconst (pc := 509) dL_law_509 (by decide) ?_
          refine ez_iadd (pc := 510) dL_law_510 (by unfold inI; omega) ?_
          refine ez_sld (pc := 511) dL_law_511 AmL.x (by omega) (by omega) ?_
          refine ez_callVI (as := [_, _]) (pc := 512) dL_law_512 (tX7_shape hR1) lk_L_72 ykX7_shape vkX7_shape h1_m rfl rfl rfl (Nat.le_of_ble_eq_true rfl) ⟨by decide, by decide⟩ ⟨Nat.le_refl _, Nat.le_refl _⟩ (fun i512 w2 r512 p512 => ?_)
          obtain ⟨v512, hR2, f2⟩ := p512
          have hS2 := hS1.frR f2
          have h2_x := hR2
          have h2_m := hR2
          refine ez_icmp_eq (pc := 515) dL_law_515 (tgt := 813) (by decide) (fun c515 => ?_) (fun c515 => by exfalso; omega)
          refine ez_iinc (L2 := [_, _, _, _]) (pc := 813) dL_law_813 rfl rfl (Nat.le_of_ble_eq_true rfl) (by unfold inI; omega) rfl ?_
          refine ez_goto (pc := 816) dL_law_816 (tgt := 18) (by decide) ?_
          exact ih (i + 4) (by omega) (by omega) w2 _ hS2 hR2
        by_cases q32_14 : sw = 14
        · refine ez_tableIn (pc := 32) dL_law_32 (by omega) (by omega) (off := 488) (tgt := 520) (by rw [q32_14]; rfl) (by decide) ?_
          refine ez_aload_n (pc := 520) dL_law_520 rfl ?_
          refine ez_aloado_n (pc := 521) dL_law_521 rfl ?_
          refine ez_iload_n (pc := 522) dL_law_522 rfl ?_
          refine ez_iconst (pc := 523) dL_law_523 (by decide) ?_
          refine ez_iadd (pc := 524) dL_law_524 (by unfold inI; omega) ?_
          refine ez_sld (pc := 525) dL_law_525 AmL.x (by omega) (by omega) ?_
          refine ez_aloado_n (pc := 526) dL_law_526 rfl ?_
          refine ez_iload_n (pc := 527) dL_law_527 rfl ?_
          refine ez_iconst (pc := 528) dL_law_528 (by decide) ?_
          refine ez_iadd (pc := 529) dL_law_529 (by unfold inI; omega) ?_
          refine ez_sld (pc := 530) dL_law_530 AmL.x (by omega) (by omega) ?_
          refine ez_callVI (as := [_, _]) (pc := 531) dL_law_531 (tX6_place hS) lk_L_73 ykX6_place vkX6_place h_x rfl rfl rfl (Nat.le_of_ble_eq_true rfl) ⟨by decide, by decide⟩ ⟨Nat.le_refl _, Nat.le_refl _⟩ (fun i531 w1 r531 p531 => ?_)
          obtain ⟨v531, hS1, f1⟩ := p531
          have hR1 := hR.frO f1
          obtain ⟨fm1, h1_m⟩ := hR1.ob
          have h1_x := h1_m
          refine ez_aload_n (pc := 534) dL_law_534 rfl ?_
          refine ez_aloado_n (pc := 535) dL_law_535 rfl ?_
          refine ez_iload_n (pc := 536) dL_law_536 rfl ?_
          refine ez_iconst (pc := 537) dL_law_537 (by decide) ?_
          refine ez_iadd (pc := 538) dL_law_538 (by unfold inI; omega) ?_
          refine ez_sld (pc := 539) dL_law_539 AmL.x (by omega) (by omega) ?_
          refine ez_aloado_n (pc := 540) dL_law_540 rfl ?_
          refine ez_iload_n (pc := 541) dL_law_541 rfl ?_
          refine ez_iconst (pc := 542) dL_law_542 (by decide) ?_
          refine ez_iadd (pc := 543) dL_law_543 (by unfold inI; omega) ?_
          refine ez_sld (pc := 544) dL_law_544 AmL.x (by omega) (by omega) ?_
          refine ez_callVI (as := [_, _]) (pc := 545) dL_law_545 (tX7_place hR1) lk_L_76 ykX7_place vkX7_place h1_m rfl rfl rfl (Nat.le_of_ble_eq_true rfl) ⟨by decide, by decide⟩ ⟨Nat.le_refl _, Nat.le_refl _⟩ (fun i545 w2 r545 p545 => ?_)
          obtain ⟨v545, hR2, f2⟩ := p545
          have hS2 := hS1.frR f2
          have h2_x := hR2
          have h2_m := hR2
          refine ez_icmp_eq (pc := 548) dL_law_548 (tgt := 813) (by decide) (fun c548 => ?_) (fun c548 => by exfalso; omega)
          refine ez_iinc (L2 := [_, _, _, _]) (pc := 813) dL_law_813 rfl rfl (Nat.le_of_ble_eq_true rfl) (by unfold inI; omega) rfl ?_
          refine ez_goto (pc := 816) dL_law_816 (tgt := 18) (by decide) ?_
          exact ih (i + 4) (by omega) (by omega) w2 _ hS2 hR2
        by_cases q32_15 : sw = 15
        · refine ez_tableIn (pc := 32) dL_law_32 (by omega) (by omega) (off := 521) (tgt := 553) (by rw [q32_15]; rfl) (by decide) ?_
          refine ez_aload_n (pc := 553) dL_law_553 rfl ?_
          refine ez_aloado_n (pc := 554) dL_law_554 rfl ?_
          refine ez_iload_n (pc := 555) dL_law_555 rfl ?_
          refine ez_iconst (pc := 556) dL_law_556 (by decide) ?_
          refine ez_iadd (pc := 557) dL_law_557 (by unfold inI; omega) ?_
          refine ez_sld (pc := 558) dL_law_558 AmL.x (by omega) (by omega) ?_
          refine ez_callVI (as := [_]) (pc := 559) dL_law_559 (tX6_best hS) lk_L_77 ykX6_best vkX6_best h_x rfl rfl rfl (Nat.le_of_ble_eq_true rfl) ⟨by decide, by decide⟩ ⟨Nat.le_refl _, Nat.le_refl _⟩ (fun i559 w1 r559 p559 => ?_)
          obtain ⟨v559, hS1, f1⟩ := p559
          have hR1 := hR.frO f1
          obtain ⟨fm1, h1_m⟩ := hR1.ob
          have h1_x := h1_m
          refine ez_aload_n (pc := 562) dL_law_562 rfl ?_
          refine ez_aloado_n (pc := 563) dL_law_563 rfl ?_
          refine ez_iload_n (pc := 564) dL_law_564 rfl ?_
          refine ez_iconst (pc := 565) dL_law_565 (by decide) ?_
          refine ez_iadd (pc := 566) dL_law_566 (by unfold inI; omega) ?_
          refine ez_sld (pc := 567) dL_law_567 AmL.x (by omega) (by omega) ?_
          refine ez_callVI (as := [_]) (pc := 568) dL_law_568 (tX7_best hR1) lk_L_80 ykX7_best vkX7_best h1_m rfl rfl rfl (Nat.le_of_ble_eq_true rfl) ⟨by decide, by decide⟩ ⟨Nat.le_refl _, Nat.le_refl _⟩ (fun i568 w2 r568 p568 => ?_)
          obtain ⟨v568, hR2, f2⟩ := p568
          have hS2 := hS1.frR f2
          have h2_x := hR2
          have h2_m := hR2
          refine ez_icmp_eq (pc := 571) dL_law_571 (tgt := 813) (by decide) (fun c571 => ?_) (fun c571 => by exfalso; omega)
          refine ez_iinc (L2 := [_, _, _, _]) (pc := 813) dL_law_813 rfl rfl (Nat.le_of_ble_eq_true rfl) (by unfold inI; omega) rfl ?_
          refine ez_goto (pc := 816) dL_law_816 (tgt := 18) (by decide) ?_
          exact ih (i + 4) (by omega) (by omega) w2 _ hS2 hR2
        by_cases q32_16 : sw = 16
        · refine ez_tableIn (pc := 32) dL_law_32 (by omega) (by omega) (off := 544) (tgt := 576) (by rw [q32_16]; rfl) (by decide) ?_
          refine ez_aload_n (pc := 576) dL_law_576 rfl ?_
          refine ez_aloado_n (pc := 577) dL_law_577 rfl ?_
          refine ez_iload_n (pc := 578) dL_law_578 rfl ?_
          refine ez_iconst (pc := 579) dL_law_579 (by decide) ?_
          refine ez_iadd (pc := 580) dL_law_580 (by unfold inI; omega) ?_
          refine ez_sld (pc := 581) dL_law_581 AmL.x (by omega) (by omega) ?_
          refine ez_aloado_n (pc := 582) dL_law_582 rfl ?_
          refine ez_iload_n (pc := 583) dL_law_583 rfl ?_
          refine ez_iconst (pc := 584) dL_law_584 (by decide) ?_
          refine ez_iadd (pc := 585) dL_law_585 (by unfold inI; omega) ?_
          refine ez_sld (pc := 586) dL_law_586 AmL.x (by omega) (by omega) ?_
          refine ez_callVI (as := [_, _]) (pc := 587) dL_law_587 (tX6_parted hS) lk_L_81 ykX6_parted vkX6_parted h_x rfl rfl rfl (Nat.le_of_ble_eq_true rfl) ⟨by decide, by decide⟩ ⟨Nat.le_refl _, Nat.le_refl _⟩ (fun i587 w1 r587 p587 => ?_)
          obtain ⟨v587, hS1, f1⟩ := p587
          have hR1 := hR.frO f1
          obtain ⟨fm1, h1_m⟩ := hR1.ob
          have h1_x := h1_m
          refine ez_aload_n (pc := 590) dL_law_590 rfl ?_
          refine ez_aloado_n (pc := 591) dL_law_591 rfl ?_
          refine ez_iload_n (pc := 592) dL_law_592 rfl ?_
          refine ez_iconst (pc := 593) dL_law_593 (by decide) ?_
          refine ez_iadd (pc := 594) dL_law_594 (by unfold inI; omega) ?_
          refine ez_sld (pc := 595) dL_law_595 AmL.x (by omega) (by omega) ?_
          refine ez_aloado_n (pc := 596) dL_law_596 rfl ?_
          refine ez_iload_n (pc := 597) dL_law_597 rfl ?_
          refine ez_iconst (pc := 598) dL_law_598 (by decide) ?_
          refine ez_iadd (pc := 599) dL_law_599 (by unfold inI; omega) ?_
          refine ez_sld (pc := 600) dL_law_600 AmL.x (by omega) (by omega) ?_
          refine ez_callVI (as := [_, _]) (pc := 601) dL_law_601 (tX7_parted hR1) lk_L_84 ykX7_parted vkX7_parted h1_m rfl rfl rfl (Nat.le_of_ble_eq_true rfl) ⟨by decide, by decide⟩ ⟨Nat.le_refl _, Nat.le_refl _⟩ (fun i601 w2 r601 p601 => ?_)
          obtain ⟨v601, hR2, f2⟩ := p601
          have hS2 := hS1.frR f2
          have h2_x := hR2
          have h2_m := hR2
          refine ez_icmp_eq (pc := 604) dL_law_604 (tgt := 813) (by decide) (fun c604 => ?_) (fun c604 => by exfalso; omega)
          refine ez_iinc (L2 := [_, _, _, _]) (pc := 813) dL_law_813 rfl rfl (Nat.le_of_ble_eq_true rfl) (by unfold inI; omega) rfl ?_
          refine ez_goto (pc := 816) dL_law_816 (tgt := 18) (by decide) ?_
          exact ih (i + 4) (by omega) (by omega) w2 _ hS2 hR2
        by_cases q32_17 : sw = 17
        · refine ez_tableIn (pc := 32) dL_law_32 (by omega) (by omega) (off := 577) (tgt := 609) (by rw [q32_17]; rfl) (by decide) ?_
          refine ez_aload_n (pc := 609) dL_law_609 rfl ?_
          refine ez_aloado_n (pc := 610) dL_law_610 rfl ?_
          refine ez_iload_n (pc := 611) dL_law_611 rfl ?_
          refine ez_iconst (pc := 612) dL_law_612 (by decide) ?_
          refine ez_iadd (pc := 613) dL_law_613 (by unfold inI; omega) ?_
          refine ez_sld (pc := 614) dL_law_614 AmL.x (by omega) (by omega) ?_
          refine ez_callVI (as := [_]) (pc := 615) dL_law_615 (tX6_parting hS) lk_L_85 ykX6_parting vkX6_parting h_x rfl rfl rfl (Nat.le_of_ble_eq_true rfl) ⟨by decide, by decide⟩ ⟨Nat.le_refl _, Nat.le_refl _⟩ (fun i615 w1 r615 p615 => ?_)
          obtain ⟨v615, hS1, f1⟩ := p615
          have hR1 := hR.frO f1
          obtain ⟨fm1, h1_m⟩ := hR1.ob
          have h1_x := h1_m
          refine ez_aload_n (pc := 618) dL_law_618 rfl ?_
          refine ez_aloado_n (pc := 619) dL_law_619 rfl ?_
          refine ez_iload_n (pc := 620) dL_law_620 rfl ?_
          refine ez_iconst (pc := 621) dL_law_621 (by decide) ?_
          refine ez_iadd (pc := 622) dL_law_622 (by unfold inI; omega) ?_
          refine ez_sld (pc := 623) dL_law_623 AmL.x (by omega) (by omega) ?_
          refine ez_callVI (as := [_]) (pc := 624) dL_law_624 (tX7_parting hR1) lk_L_88 ykX7_parting vkX7_parting h1_m rfl rfl rfl (Nat.le_of_ble_eq_true rfl) ⟨by decide, by decide⟩ ⟨Nat.le_refl _, Nat.le_refl _⟩ (fun i624 w2 r624 p624 => ?_)
          obtain ⟨v624, hR2, f2⟩ := p624
          have hS2 := hS1.frR f2
          have h2_x := hR2
          have h2_m := hR2
          refine ez_icmp_eq (pc := 627) dL_law_627 (tgt := 813) (by decide) (fun c627 => ?_) (fun c627 => by exfalso; omega)
          refine ez_iinc (L2 := [_, _, _, _]) (pc := 813) dL_law_813 rfl rfl (Nat.le_of_ble_eq_true rfl) (by unfold inI; omega) rfl ?_
          refine ez_goto (pc := 816) dL_law_816 (tgt := 18) (by decide) ?_
          exact ih (i + 4) (by omega) (by omega) w2 _ hS2 hR2
        by_cases q32_18 : sw = 18
        · refine ez_tableIn (pc := 32) dL_law_32 (by omega) (by omega) (off := 600) (tgt := 632) (by rw [q32_18]; rfl) (by decide) ?_
          refine ez_aload_n (pc := 632) dL_law_632 rfl ?_
          refine ez_aloado_n (pc := 633) dL_law_633 rfl ?_
          refine ez_iload_n (pc := 634) dL_law_634 rfl ?_
          refine ez_iconst (pc := 635) dL_law_635 (by decide) ?_
          refine ez_iadd (pc := 636) dL_law_636 (by unfold inI; omega) ?_
          refine ez_sld (pc := 637) dL_law_637 AmL.x (by omega) (by omega) ?_
          refine ez_callVI (as := [_]) (pc := 638) dL_law_638 (tX6_shapes hS) lk_L_89 ykX6_shapes vkX6_shapes h_x rfl rfl rfl (Nat.le_of_ble_eq_true rfl) ⟨by decide, by decide⟩ ⟨Nat.le_refl _, Nat.le_refl _⟩ (fun i638 w1 r638 p638 => ?_)
          obtain ⟨v638, hS1, f1⟩ := p638
          have hR1 := hR.frO f1
          obtain ⟨fm1, h1_m⟩ := hR1.ob
          have h1_x := h1_m
          refine ez_aload_n (pc := 641) dL_law_641 rfl ?_
          refine ez_aloado_n (pc := 642) dL_law_642 rfl ?_
          refine ez_iload_n (pc := 643) dL_law_643 rfl ?_
          refine ez_iconst (pc := 644) dL_law_644 (by decide) ?_
          refine ez_iadd (pc := 645) dL_law_645 (by unfold inI; omega) ?_
          refine ez_sld (pc := 646) dL_law_646 AmL.x (by omega) (by omega) ?_
          refine ez_callVI (as := [_]) (pc := 647) dL_law_647 (tX7_shapes hR1) lk_L_92 ykX7_shapes vkX7_shapes h1_m rfl rfl rfl (Nat.le_of_ble_eq_true rfl) ⟨by decide, by decide⟩ ⟨Nat.le_refl _, Nat.le_refl _⟩ (fun i647 w2 r647 p647 => ?_)
          obtain ⟨v647, hR2, f2⟩ := p647
          have hS2 := hS1.frR f2
          have h2_x := hR2
          have h2_m := hR2
          refine ez_icmp_eq (pc := 650) dL_law_650 (tgt := 813) (by decide) (fun c650 => ?_) (fun c650 => by exfalso; omega)
          refine ez_iinc (L2 := [_, _, _, _]) (pc := 813) dL_law_813 rfl rfl (Nat.le_of_ble_eq_true rfl) (by unfold inI; omega) rfl ?_
          refine ez_goto (pc := 816) dL_law_816 (tgt := 18) (by decide) ?_
          exact ih (i + 4) (by omega) (by omega) w2 _ hS2 hR2
        by_cases q32_19 : sw = 19
        · refine ez_tableIn (pc := 32) dL_law_32 (by omega) (by omega) (off := 623) (tgt := 655) (by rw [q32_19]; rfl) (by decide) ?_
          refine ez_aload_n (pc := 655) dL_law_655 rfl ?_
          refine ez_aloado_n (pc := 656) dL_law_656 rfl ?_
          refine ez_iload_n (pc := 657) dL_law_657 rfl ?_
          refine ez_iconst (pc := 658) dL_law_658 (by decide) ?_
          refine ez_iadd (pc := 659) dL_law_659 (by unfold inI; omega) ?_
          refine ez_sld (pc := 660) dL_law_660 AmL.x (by omega) (by omega) ?_
          refine ez_aloado_n (pc := 661) dL_law_661 rfl ?_
          refine ez_iload_n (pc := 662) dL_law_662 rfl ?_
          refine ez_iconst (pc := 663) dL_law_663 (by decide) ?_
          refine ez_iadd (pc := 664) dL_law_664 (by unfold inI; omega) ?_
          refine ez_sld (pc := 665) dL_law_665 AmL.x (by omega) (by omega) ?_
          refine ez_aloado_n (pc := 666) dL_law_666 rfl ?_
          refine ez_iload_n (pc := 667) dL_law_667 rfl ?_
          refine ez_iconst (pc := 668) dL_law_668 (by decide) ?_
          refine ez_iadd (pc := 669) dL_law_669 (by unfold inI; omega) ?_
          refine ez_sld (pc := 670) dL_law_670 AmL.x (by omega) (by omega) ?_
          refine ez_callVI (as := [_, _, _]) (pc := 671) dL_law_671 (tX6_link hS) lk_L_93 ykX6_link vkX6_link h_x rfl rfl rfl (Nat.le_of_ble_eq_true rfl) ⟨by decide, by decide⟩ ⟨Nat.le_refl _, Nat.le_refl _⟩ (fun i671 w1 r671 p671 => ?_)
          obtain ⟨v671, hS1, f1⟩ := p671
          have hR1 := hR.frO f1
          obtain ⟨fm1, h1_m⟩ := hR1.ob
          have h1_x := h1_m
          refine ez_aload_n (pc := 674) dL_law_674 rfl ?_
          refine ez_aloado_n (pc := 675) dL_law_675 rfl ?_
          refine ez_iload_n (pc := 676) dL_law_676 rfl ?_
          refine ez_iconst (pc := 677) dL_law_677 (by decide) ?_
          refine ez_iadd (pc := 678) dL_law_678 (by unfold inI; omega) ?_
          refine ez_sld (pc := 679) dL_law_679 AmL.x (by omega) (by omega) ?_
          refine ez_aloado_n (pc := 680) dL_law_680 rfl ?_
          refine ez_iload_n (pc := 681) dL_law_681 rfl ?_
          refine ez_iconst (pc := 682) dL_law_682 (by decide) ?_
          refine ez_iadd (pc := 683) dL_law_683 (by unfold inI; omega) ?_
          refine ez_sld (pc := 684) dL_law_684 AmL.x (by omega) (by omega) ?_
          refine ez_aloado_n (pc := 685) dL_law_685 rfl ?_
          refine ez_iload_n (pc := 686) dL_law_686 rfl ?_
          refine ez_iconst (pc := 687) dL_law_687 (by decide) ?_
          refine ez_iadd (pc := 688) dL_law_688 (by unfold inI; omega) ?_
          refine ez_sld (pc := 689) dL_law_689 AmL.x (by omega) (by omega) ?_
          refine ez_callVI (as := [_, _, _]) (pc := 690) dL_law_690 (tX7_link hR1) lk_L_96 ykX7_link vkX7_link h1_m rfl rfl rfl (Nat.le_of_ble_eq_true rfl) ⟨by decide, by decide⟩ ⟨Nat.le_refl _, Nat.le_refl _⟩ (fun i690 w2 r690 p690 => ?_)
          obtain ⟨v690, hR2, f2⟩ := p690
          have hS2 := hS1.frR f2
          have h2_x := hR2
          have h2_m := hR2
          refine ez_icmp_eq (pc := 693) dL_law_693 (tgt := 813) (by decide) (fun c693 => ?_) (fun c693 => by exfalso; omega)
          refine ez_iinc (L2 := [_, _, _, _]) (pc := 813) dL_law_813 rfl rfl (Nat.le_of_ble_eq_true rfl) (by unfold inI; omega) rfl ?_
          refine ez_goto (pc := 816) dL_law_816 (tgt := 18) (by decide) ?_
          exact ih (i + 4) (by omega) (by omega) w2 _ hS2 hR2
        by_cases q32_20 : sw = 20
        · refine ez_tableIn (pc := 32) dL_law_32 (by omega) (by omega) (off := 666) (tgt := 698) (by rw [q32_20]; rfl) (by decide) ?_
          refine ez_aload_n (pc := 698) dL_law_698 rfl ?_
          refine ez_aloado_n (pc := 699) dL_law_699 rfl ?_
          refine ez_iload_n (pc := 700) dL_law_700 rfl ?_
          refine ez_iconst (pc := 701) dL_law_701 (by decide) ?_
          refine ez_iadd (pc := 702) dL_law_702 (by unfold inI; omega) ?_
          refine ez_sld (pc := 703) dL_law_703 AmL.x (by omega) (by omega) ?_
          refine ez_callVI (as := [_]) (pc := 704) dL_law_704 (tX6_better hS) lk_L_97 ykX6_better vkX6_better h_x rfl rfl rfl (Nat.le_of_ble_eq_true rfl) ⟨by decide, by decide⟩ ⟨Nat.le_refl _, Nat.le_refl _⟩ (fun i704 w1 r704 p704 => ?_)
          obtain ⟨v704, hS1, f1⟩ := p704
          have hR1 := hR.frO f1
          obtain ⟨fm1, h1_m⟩ := hR1.ob
          have h1_x := h1_m
          refine ez_aload_n (pc := 707) dL_law_707 rfl ?_
          refine ez_aloado_n (pc := 708) dL_law_708 rfl ?_
          refine ez_iload_n (pc := 709) dL_law_709 rfl ?_
          refine ez_iconst (pc := 710) dL_law_710 (by decide) ?_
          refine ez_iadd (pc := 711) dL_law_711 (by unfold inI; omega) ?_
          refine ez_sld (pc := 712) dL_law_712 AmL.x (by omega) (by omega) ?_
          refine ez_callVI (as := [_]) (pc := 713) dL_law_713 (tX7_better hR1) lk_L_100 ykX7_better vkX7_better h1_m rfl rfl rfl (Nat.le_of_ble_eq_true rfl) ⟨by decide, by decide⟩ ⟨Nat.le_refl _, Nat.le_refl _⟩ (fun i713 w2 r713 p713 => ?_)
          obtain ⟨v713, hR2, f2⟩ := p713
          have hS2 := hS1.frR f2
          have h2_x := hR2
          have h2_m := hR2
          refine ez_icmp_eq (pc := 716) dL_law_716 (tgt := 813) (by decide) (fun c716 => ?_) (fun c716 => by exfalso; omega)
          refine ez_iinc (L2 := [_, _, _, _]) (pc := 813) dL_law_813 rfl rfl (Nat.le_of_ble_eq_true rfl) (by unfold inI; omega) rfl ?_
          refine ez_goto (pc := 816) dL_law_816 (tgt := 18) (by decide) ?_
          exact ih (i + 4) (by omega) (by omega) w2 _ hS2 hR2
        by_cases q32_21 : sw = 21
        · refine ez_tableIn (pc := 32) dL_law_32 (by omega) (by omega) (off := 689) (tgt := 721) (by rw [q32_21]; rfl) (by decide) ?_
          refine ez_aload_n (pc := 721) dL_law_721 rfl ?_
          refine ez_aloado_n (pc := 722) dL_law_722 rfl ?_
          refine ez_iload_n (pc := 723) dL_law_723 rfl ?_
          refine ez_iconst (pc := 724) dL_law_724 (by decide) ?_
          refine ez_iadd (pc := 725) dL_law_725 (by unfold inI; omega) ?_
          refine ez_sld (pc := 726) dL_law_726 AmL.x (by omega) (by omega) ?_
          refine ez_aloado_n (pc := 727) dL_law_727 rfl ?_
          refine ez_iload_n (pc := 728) dL_law_728 rfl ?_
          refine ez_iconst (pc := 729) dL_law_729 (by decide) ?_
          refine ez_iadd (pc := 730) dL_law_730 (by unfold inI; omega) ?_
          refine ez_sld (pc := 731) dL_law_731 AmL.x (by omega) (by omega) ?_
          refine ez_aloado_n (pc := 732) dL_law_732 rfl ?_
          refine ez_iload_n (pc := 733) dL_law_733 rfl ?_
          refine ez_iconst (pc := 734) dL_law_734 (by decide) ?_
          refine ez_iadd (pc := 735) dL_law_735 (by unfold inI; omega) ?_
          refine ez_sld (pc := 736) dL_law_736 AmL.x (by omega) (by omega) ?_
          refine ez_callVI (as := [_, _, _]) (pc := 737) dL_law_737 (tX6_day hS) lk_L_101 ykX6_day vkX6_day h_x rfl rfl rfl (Nat.le_of_ble_eq_true rfl) ⟨by decide, by decide⟩ ⟨Nat.le_refl _, Nat.le_refl _⟩ (fun i737 w1 r737 p737 => ?_)
          obtain ⟨v737, hS1, f1⟩ := p737
          have hR1 := hR.frO f1
          obtain ⟨fm1, h1_m⟩ := hR1.ob
          have h1_x := h1_m
          refine ez_aload_n (pc := 740) dL_law_740 rfl ?_
          refine ez_aloado_n (pc := 741) dL_law_741 rfl ?_
          refine ez_iload_n (pc := 742) dL_law_742 rfl ?_
          refine ez_iconst (pc := 743) dL_law_743 (by decide) ?_
          refine ez_iadd (pc := 744) dL_law_744 (by unfold inI; omega) ?_
          refine ez_sld (pc := 745) dL_law_745 AmL.x (by omega) (by omega) ?_
          refine ez_aloado_n (pc := 746) dL_law_746 rfl ?_
          refine ez_iload_n (pc := 747) dL_law_747 rfl ?_
          refine ez_iconst (pc := 748) dL_law_748 (by decide) ?_
          refine ez_iadd (pc := 749) dL_law_749 (by unfold inI; omega) ?_
          refine ez_sld (pc := 750) dL_law_750 AmL.x (by omega) (by omega) ?_
          refine ez_aloado_n (pc := 751) dL_law_751 rfl ?_
          refine ez_iload_n (pc := 752) dL_law_752 rfl ?_
          refine ez_iconst (pc := 753) dL_law_753 (by decide) ?_
          refine ez_iadd (pc := 754) dL_law_754 (by unfold inI; omega) ?_
          refine ez_sld (pc := 755) dL_law_755 AmL.x (by omega) (by omega) ?_
          refine ez_callVI (as := [_, _, _]) (pc := 756) dL_law_756 (tX7_day hR1) lk_L_104 ykX7_day vkX7_day h1_m rfl rfl rfl (Nat.le_of_ble_eq_true rfl) ⟨by decide, by decide⟩ ⟨Nat.le_refl _, Nat.le_refl _⟩ (fun i756 w2 r756 p756 => ?_)
          obtain ⟨v756, hR2, f2⟩ := p756
          have hS2 := hS1.frR f2
          have h2_x := hR2
          have h2_m := hR2
          refine ez_icmp_eq (pc := 759) dL_law_759 (tgt := 813) (by decide) (fun c759 => ?_) (fun c759 => by exfalso; omega)
          refine ez_iinc (L2 := [_, _, _, _]) (pc := 813) dL_law_813 rfl rfl (Nat.le_of_ble_eq_true rfl) (by unfold inI; omega) rfl ?_
          refine ez_goto (pc := 816) dL_law_816 (tgt := 18) (by decide) ?_
          exact ih (i + 4) (by omega) (by omega) w2 _ hS2 hR2
        by_cases q32_22 : sw = 22
        · refine ez_tableIn (pc := 32) dL_law_32 (by omega) (by omega) (off := 732) (tgt := 764) (by rw [q32_22]; rfl) (by decide) ?_
          refine ez_aload_n (pc := 764) dL_law_764 rfl ?_
          refine ez_callVI (as := []) (pc := 765) dL_law_765 (tX6_keep hS) lk_L_105 ykX6_keep vkX6_keep h_x rfl rfl rfl (Nat.le_of_ble_eq_true rfl) ⟨by decide, by decide⟩ ⟨Nat.le_refl _, Nat.le_refl _⟩ (fun i765 w1 r765 p765 => ?_)
          obtain ⟨v765, hS1, f1⟩ := p765
          have hR1 := hR.frO f1
          obtain ⟨fm1, h1_m⟩ := hR1.ob
          have h1_x := h1_m
          refine ez_aload_n (pc := 768) dL_law_768 rfl ?_
          refine ez_callVI (as := []) (pc := 769) dL_law_769 (tX7_keep hR1) lk_L_108 ykX7_keep vkX7_keep h1_m rfl rfl rfl (Nat.le_of_ble_eq_true rfl) ⟨by decide, by decide⟩ ⟨Nat.le_refl _, Nat.le_refl _⟩ (fun i769 w2 r769 p769 => ?_)
          obtain ⟨v769, hR2, f2⟩ := p769
          have hS2 := hS1.frR f2
          have h2_x := hR2
          have h2_m := hR2
          refine ez_icmp_eq (pc := 772) dL_law_772 (tgt := 813) (by decide) (fun c772 => ?_) (fun c772 => by exfalso; omega)
          refine ez_iinc (L2 := [_, _, _, _]) (pc := 813) dL_law_813 rfl rfl (Nat.le_of_ble_eq_true rfl) (by unfold inI; omega) rfl ?_
          refine ez_goto (pc := 816) dL_law_816 (tgt := 18) (by decide) ?_
          exact ih (i + 4) (by omega) (by omega) w2 _ hS2 hR2
        by_cases q32_23 : sw = 23
        · refine ez_tableIn (pc := 32) dL_law_32 (by omega) (by omega) (off := 745) (tgt := 777) (by rw [q32_23]; rfl) (by decide) ?_
          refine ez_aload_n (pc := 777) dL_law_777 rfl ?_
          refine ez_callVI (as := []) (pc := 778) dL_law_778 (tX6_back hS) lk_L_109 ykX6_back vkX6_back h_x rfl rfl rfl (Nat.le_of_ble_eq_true rfl) ⟨by decide, by decide⟩ ⟨Nat.le_refl _, Nat.le_refl _⟩ (fun i778 w1 r778 p778 => ?_)
          obtain ⟨v778, hS1, f1⟩ := p778
          have hR1 := hR.frO f1
          obtain ⟨fm1, h1_m⟩ := hR1.ob
          have h1_x := h1_m
          refine ez_aload_n (pc := 781) dL_law_781 rfl ?_
          refine ez_callVI (as := []) (pc := 782) dL_law_782 (tX7_back hR1) lk_L_112 ykX7_back vkX7_back h1_m rfl rfl rfl (Nat.le_of_ble_eq_true rfl) ⟨by decide, by decide⟩ ⟨Nat.le_refl _, Nat.le_refl _⟩ (fun i782 w2 r782 p782 => ?_)
          obtain ⟨v782, hR2, f2⟩ := p782
          have hS2 := hS1.frR f2
          have h2_x := hR2
          have h2_m := hR2
          refine ez_icmp_eq (pc := 785) dL_law_785 (tgt := 813) (by decide) (fun c785 => ?_) (fun c785 => by exfalso; omega)
          refine ez_iinc (L2 := [_, _, _, _]) (pc := 813) dL_law_813 rfl rfl (Nat.le_of_ble_eq_true rfl) (by unfold inI; omega) rfl ?_
          refine ez_goto (pc := 816) dL_law_816 (tgt := 18) (by decide) ?_
          exact ih (i + 4) (by omega) (by omega) w2 _ hS2 hR2
        by_cases q32_24 : sw = 24
        · refine ez_tableIn (pc := 32) dL_law_32 (by omega) (by omega) (off := 758) (tgt := 790) (by rw [q32_24]; rfl) (by decide) ?_
          refine ez_aload_n (pc := 790) dL_law_790 rfl ?_
          refine ez_aloado_n (pc := 791) dL_law_791 rfl ?_
          refine ez_iload_n (pc := 792) dL_law_792 rfl ?_
          refine ez_iconst (pc := 793) dL_law_793 (by decide) ?_
          refine ez_iadd (pc := 794) dL_law_794 (by unfold inI; omega) ?_
          refine ez_sld (pc := 795) dL_law_795 AmL.x (by omega) (by omega) ?_
          refine ez_callVI (as := [_]) (pc := 796) dL_law_796 (tX6_count hS) lk_L_113 ykX6_count vkX6_count h_x rfl rfl rfl (Nat.le_of_ble_eq_true rfl) ⟨by decide, by decide⟩ ⟨Nat.le_refl _, Nat.le_refl _⟩ (fun i796 w1 r796 p796 => ?_)
          obtain ⟨v796, hS1, f1⟩ := p796
          have hR1 := hR.frO f1
          obtain ⟨fm1, h1_m⟩ := hR1.ob
          have h1_x := h1_m
          refine ez_aload_n (pc := 799) dL_law_799 rfl ?_
          refine ez_aloado_n (pc := 800) dL_law_800 rfl ?_
          refine ez_iload_n (pc := 801) dL_law_801 rfl ?_
          refine ez_iconst (pc := 802) dL_law_802 (by decide) ?_
          refine ez_iadd (pc := 803) dL_law_803 (by unfold inI; omega) ?_
          refine ez_sld (pc := 804) dL_law_804 AmL.x (by omega) (by omega) ?_
          refine ez_callVI (as := [_]) (pc := 805) dL_law_805 (tX7_count hR1) lk_L_116 ykX7_count vkX7_count h1_m rfl rfl rfl (Nat.le_of_ble_eq_true rfl) ⟨by decide, by decide⟩ ⟨Nat.le_refl _, Nat.le_refl _⟩ (fun i805 w2 r805 p805 => ?_)
          obtain ⟨v805, hR2, f2⟩ := p805
          have hS2 := hS1.frR f2
          have h2_x := hR2
          have h2_m := hR2
          refine ez_icmp_eq (pc := 808) dL_law_808 (tgt := 813) (by decide) (fun c808 => ?_) (fun c808 => by exfalso; omega)
          refine ez_iinc (L2 := [_, _, _, _]) (pc := 813) dL_law_813 rfl rfl (Nat.le_of_ble_eq_true rfl) (by unfold inI; omega) rfl ?_
          refine ez_goto (pc := 816) dL_law_816 (tgt := 18) (by decide) ?_
          exact ih (i + 4) (by omega) (by omega) w2 _ hS2 hR2
        refine ez_tableOut (pc := 32) dL_law_32 (by omega) (tgt := 813) (by decide) ?_
        refine ez_iinc (L2 := [_, _, _, _]) (pc := 813) dL_law_813 rfl rfl (Nat.le_of_ble_eq_true rfl) (by unfold inI; omega) rfl ?_
        refine ez_goto (pc := 816) dL_law_816 (tgt := 18) (by decide) ?_
        exact ih (i + 4) (by omega) (by omega) w s hS hR
  refine ez_new (T0 := TX6) (ci := 6) (N := 13) (fs := dfX6) tyX6 (pc := 0) dL_law_0 ck_L_7 nw_X6 ini_X6 rfl tyX6_ok rfl dfI_X6 dfV_X6 (Nat.le_of_ble_eq_true rfl) (Nat.le_of_ble_eq_true rfl) ?_
  refine ez_up (fun w1 e_w1 => ?_)
  refine ez_num (k2 := 1) (j2 := 13) (n2 := 1) rfl rfl rfl ?_
  have h1_x := (congrFun e_w1 0).trans up_s
  refine ez_dup (pc := 3) dL_law_3 rfl ?_
  refine ez_callIZ (as := []) (pc := 4) dL_law_4 AmS.call AmL.go (tX6_init h1_x) lk_L_9 ykX6_init nkX6_init rfl rfl (Nat.le_of_ble_eq_true rfl) ⟨by decide, by decide⟩ ⟨Nat.le_of_ble_eq_true rfl, Nat.le_of_ble_eq_true rfl⟩ (fun v2 w2 p2 => ?_)
  obtain ⟨rfl, hS⟩ := p2
  refine ez_num (k2 := 55) (j2 := 7768) (n2 := 55) rfl rfl rfl ?_
  refine ez_astore_n (L2 := [_, _, _, _]) (pc := 7) dL_law_7 rfl (Nat.le_of_ble_eq_true rfl) rfl ?_
  refine ez_new (T0 := TX7) (ci := 7) (N := 27) (fs := dfX7) tyX7 (pc := 8) dL_law_8 ck_L_10 nw_X7 ini_X7 rfl tyX7_ok rfl dfI_X7 dfV_X7 (Nat.le_of_ble_eq_true rfl) (Nat.le_of_ble_eq_true rfl) ?_
  refine ez_up (fun w3 e_w3 => ?_)
  refine ez_num (k2 := 56) (j2 := 7795) (n2 := 56) rfl rfl rfl ?_
  have h3_m := (congrFun e_w3 55).trans up_s
  have hS3 : ClsS w3 st0 := hS.frR (fun z hz => by rw [e_w3, up_n (by omega)])
  refine ez_dup (pc := 11) dL_law_11 rfl ?_
  refine ez_callIV (as := []) (pc := 12) dL_law_12 (tX7_init h3_m) lk_L_12 ykX7_init nkX7_init rfl rfl (Nat.le_of_ble_eq_true rfl) ⟨by decide, by decide⟩ ⟨Nat.le_of_ble_eq_true rfl, Nat.le_of_ble_eq_true rfl⟩ (fun w4 p4 => ?_)
  refine ez_num (k2 := 68) (j2 := 26823) (n2 := 68) rfl rfl rfl ?_
  refine ez_astore_n (L2 := [_, _, _, _]) (pc := 15) dL_law_15 rfl (Nat.le_of_ble_eq_true rfl) rfl ?_
  refine ez_iconst (pc := 16) dL_law_16 (by decide) ?_
  refine ez_istore_n (L2 := [_, _, _, _]) (pc := 17) dL_law_17 rfl (Nat.le_of_ble_eq_true rfl) rfl ?_
  exact loop (N + 1) 0 (by omega) (by omega) w4 st0 (hS3.frR p4.2) p4.1
