/-! the law over any script -/
theorem gw_xl {β : Type} {Q : β → Prop} {xs : Nat → Int32} {N : Nat} {i : Int32} {f : Int32 → Option β} (h0 : 0 ≤ i.toInt) (h1 : i.toInt < N) (k : gw (f (xs i.toNatClampNeg)) Q) : gw (gm_xl xs N i f) Q := by
  unfold gm_xl
  rw [if_pos (gw_ix h0 h1)]
  exact k
def gp_step (xs : Nat → Int32) (N q1 q5 : Nat) : Int32 × gm_M → Option ((Int32 × gm_M) ⊕ (Option Value × gm_M)) := (fun (s9 : Int32 × gm_M) => if ¬ s9.1 < 0 ∧ Int32.toNatClampNeg s9.1 ≤ 4096 then if ((Int32.ofNat N) - (4 : Int32)) < s9.1 then if (1 : Int32) = 0 ∨ (1 : Int32) = 1 then some (Sum.inr (some (.int (1 : Int32)), s9.2)) else none else gm_xl xs N s9.1 (fun y10 => gm_j (fun (s11 : gm_M) => some (Sum.inl ((s9.1 + (4 : Int32)), s11))) (fun j12 => if (y10 &&& (63 : Int32)) = 0 then gm_xl xs N (s9.1 + (1 : Int32)) (fun y13 => if gm_tag s9.2 q1 = 16 then gm_bI (f_X11_feed q1 y13 s9.2) (fun x15 m14 => gm_xl xs N (s9.1 + (1 : Int32)) (fun y16 => if gm_tag m14 q5 = 17 then gm_bI (f_X12_feed q5 y16 m14) (fun x18 m17 => j12 m17) else none)) else none) else if (y10 &&& (63 : Int32)) = 1 then if gm_tag s9.2 q1 = 16 then gm_bI (f_X11_afternoon q1 s9.2) (fun x20 m19 => if gm_tag m19 q5 = 17 then gm_bI (f_X12_afternoon q5 m19) (fun x22 m21 => j12 m21) else none) else none else if (y10 &&& (63 : Int32)) = 2 then gm_xl xs N (s9.1 + (1 : Int32)) (fun y23 => gm_xl xs N (s9.1 + (2 : Int32)) (fun y24 => if gm_tag s9.2 q1 = 16 then gm_bI (f_X11_child q1 y23 y24 s9.2) (fun x26 m25 => gm_xl xs N (s9.1 + (1 : Int32)) (fun y27 => gm_xl xs N (s9.1 + (2 : Int32)) (fun y28 => if gm_tag m25 q5 = 17 then gm_bI (f_X12_child q5 y27 y28 m25) (fun x30 m29 => j12 m29) else none))) else none)) else if (y10 &&& (63 : Int32)) = 3 then gm_xl xs N (s9.1 + (1 : Int32)) (fun y31 => gm_xl xs N (s9.1 + (2 : Int32)) (fun y32 => if gm_tag s9.2 q1 = 16 then gm_bI (f_X11_of q1 y31 y32 s9.2) (fun x34 m33 => gm_xl xs N (s9.1 + (1 : Int32)) (fun y35 => gm_xl xs N (s9.1 + (2 : Int32)) (fun y36 => if gm_tag m33 q5 = 17 then gm_bI (f_X12_of q5 y35 y36 m33) (fun x38 m37 => j12 m37) else none))) else none)) else if (y10 &&& (63 : Int32)) = 4 then gm_xl xs N (s9.1 + (1 : Int32)) (fun y39 => gm_xl xs N (s9.1 + (2 : Int32)) (fun y40 => gm_xl xs N (s9.1 + (3 : Int32)) (fun y41 => if gm_tag s9.2 q1 = 16 then gm_bI (f_X11_row q1 y39 y40 y41 s9.2) (fun x43 m42 => gm_xl xs N (s9.1 + (1 : Int32)) (fun y44 => gm_xl xs N (s9.1 + (2 : Int32)) (fun y45 => gm_xl xs N (s9.1 + (3 : Int32)) (fun y46 => if gm_tag m42 q5 = 17 then gm_bI (f_X12_row q5 y44 y45 y46 m42) (fun x48 m47 => j12 m47) else none)))) else none))) else if (y10 &&& (63 : Int32)) = 5 then gm_xl xs N (s9.1 + (1 : Int32)) (fun y49 => gm_xl xs N (s9.1 + (2 : Int32)) (fun y50 => gm_xl xs N (s9.1 + (3 : Int32)) (fun y51 => if gm_tag s9.2 q1 = 16 then gm_bI (f_X11_set q1 y49 y50 y51 s9.2) (fun x53 m52 => gm_xl xs N (s9.1 + (1 : Int32)) (fun y54 => gm_xl xs N (s9.1 + (2 : Int32)) (fun y55 => gm_xl xs N (s9.1 + (3 : Int32)) (fun y56 => if gm_tag m52 q5 = 17 then gm_bI (f_X12_set q5 y54 y55 y56 m52) (fun x58 m57 => j12 m57) else none)))) else none))) else if (y10 &&& (63 : Int32)) = 6 then gm_xl xs N (s9.1 + (1 : Int32)) (fun y59 => if gm_tag s9.2 q1 = 16 then gm_bI (f_X11_told q1 y59 s9.2) (fun x61 m60 => gm_xl xs N (s9.1 + (1 : Int32)) (fun y62 => if gm_tag m60 q5 = 17 then gm_bI (f_X12_told q5 y62 m60) (fun x64 m63 => j12 m63) else none)) else none) else if (y10 &&& (63 : Int32)) = 7 then gm_xl xs N (s9.1 + (1 : Int32)) (fun y65 => gm_xl xs N (s9.1 + (2 : Int32)) (fun y66 => if gm_tag s9.2 q1 = 16 then gm_bI (f_X11_blow q1 y65 y66 s9.2) (fun x68 m67 => gm_xl xs N (s9.1 + (1 : Int32)) (fun y69 => gm_xl xs N (s9.1 + (2 : Int32)) (fun y70 => if gm_tag m67 q5 = 17 then gm_bI (f_X12_blow q5 y69 y70 m67) (fun x72 m71 => j12 m71) else none))) else none)) else if (y10 &&& (63 : Int32)) = 8 then gm_xl xs N (s9.1 + (1 : Int32)) (fun y73 => if gm_tag s9.2 q1 = 16 then gm_bI (f_X11_pass q1 y73 s9.2) (fun x75 m74 => gm_xl xs N (s9.1 + (1 : Int32)) (fun y76 => if gm_tag m74 q5 = 17 then gm_bI (f_X12_pass q5 y76 m74) (fun x78 m77 => j12 m77) else none)) else none) else if (y10 &&& (63 : Int32)) = 9 then gm_xl xs N (s9.1 + (1 : Int32)) (fun y79 => gm_xl xs N (s9.1 + (2 : Int32)) (fun y80 => if gm_tag s9.2 q1 = 16 then gm_bI (f_X11_on q1 y79 y80 s9.2) (fun x82 m81 => gm_xl xs N (s9.1 + (1 : Int32)) (fun y83 => gm_xl xs N (s9.1 + (2 : Int32)) (fun y84 => if gm_tag m81 q5 = 17 then gm_bI (f_X12_on q5 y83 y84 m81) (fun x86 m85 => j12 m85) else none))) else none)) else if (y10 &&& (63 : Int32)) = 10 then gm_xl xs N (s9.1 + (1 : Int32)) (fun y87 => gm_xl xs N (s9.1 + (2 : Int32)) (fun y88 => if gm_tag s9.2 q1 = 16 then gm_bI (f_X11_when q1 y87 y88 s9.2) (fun x90 m89 => gm_xl xs N (s9.1 + (1 : Int32)) (fun y91 => gm_xl xs N (s9.1 + (2 : Int32)) (fun y92 => if gm_tag m89 q5 = 17 then gm_bI (f_X12_when q5 y91 y92 m89) (fun x94 m93 => j12 m93) else none))) else none)) else if (y10 &&& (63 : Int32)) = 11 then gm_xl xs N (s9.1 + (1 : Int32)) (fun y95 => gm_xl xs N (s9.1 + (2 : Int32)) (fun y96 => if gm_tag s9.2 q1 = 16 then gm_bI (f_X11_soon q1 y95 y96 s9.2) (fun x98 m97 => gm_xl xs N (s9.1 + (1 : Int32)) (fun y99 => gm_xl xs N (s9.1 + (2 : Int32)) (fun y100 => if gm_tag m97 q5 = 17 then gm_bI (f_X12_soon q5 y99 y100 m97) (fun x102 m101 => j12 m101) else none))) else none)) else if (y10 &&& (63 : Int32)) = 12 then gm_xl xs N (s9.1 + (1 : Int32)) (fun y103 => gm_xl xs N (s9.1 + (2 : Int32)) (fun y104 => if gm_tag s9.2 q1 = 16 then gm_bI (f_X11_pieces q1 y103 y104 s9.2) (fun x106 m105 => gm_xl xs N (s9.1 + (1 : Int32)) (fun y107 => gm_xl xs N (s9.1 + (2 : Int32)) (fun y108 => if gm_tag m105 q5 = 17 then gm_bI (f_X12_pieces q5 y107 y108 m105) (fun x110 m109 => j12 m109) else none))) else none)) else if (y10 &&& (63 : Int32)) = 13 then gm_xl xs N (s9.1 + (1 : Int32)) (fun y111 => gm_xl xs N (s9.1 + (2 : Int32)) (fun y112 => if gm_tag s9.2 q1 = 16 then gm_bI (f_X11_breaths q1 y111 y112 s9.2) (fun x114 m113 => gm_xl xs N (s9.1 + (1 : Int32)) (fun y115 => gm_xl xs N (s9.1 + (2 : Int32)) (fun y116 => if gm_tag m113 q5 = 17 then gm_bI (f_X12_breaths q5 y115 y116 m113) (fun x118 m117 => j12 m117) else none))) else none)) else if (y10 &&& (63 : Int32)) = 14 then gm_xl xs N (s9.1 + (1 : Int32)) (fun y119 => if gm_tag s9.2 q1 = 16 then gm_bI (f_X11_slack q1 y119 s9.2) (fun x121 m120 => gm_xl xs N (s9.1 + (1 : Int32)) (fun y122 => if gm_tag m120 q5 = 17 then gm_bI (f_X12_slack q5 y122 m120) (fun x124 m123 => j12 m123) else none)) else none) else if (y10 &&& (63 : Int32)) = 15 then gm_xl xs N (s9.1 + (1 : Int32)) (fun y125 => gm_xl xs N (s9.1 + (2 : Int32)) (fun y126 => gm_xl xs N (s9.1 + (3 : Int32)) (fun y127 => if gm_tag s9.2 q1 = 16 then gm_bL (f_X11_likely q1 y125 y126 y127 s9.2) (fun x129 m128 => gm_xl xs N (s9.1 + (1 : Int32)) (fun y130 => gm_xl xs N (s9.1 + (2 : Int32)) (fun y131 => gm_xl xs N (s9.1 + (3 : Int32)) (fun y132 => if gm_tag m128 q5 = 17 then gm_bL (f_X12_likely q5 y130 y131 y132 m128) (fun x134 m133 => j12 m133) else none)))) else none))) else if (y10 &&& (63 : Int32)) = 16 then gm_xl xs N (s9.1 + (1 : Int32)) (fun y135 => if gm_tag s9.2 q1 = 16 then gm_bI (f_X11_dare q1 y135 s9.2) (fun x137 m136 => gm_xl xs N (s9.1 + (1 : Int32)) (fun y138 => if gm_tag m136 q5 = 17 then gm_bI (f_X12_dare q5 y138 m136) (fun x140 m139 => j12 m139) else none)) else none) else if (y10 &&& (63 : Int32)) = 17 then if gm_tag s9.2 q1 = 16 then gm_bI (f_X11_first q1 s9.2) (fun x142 m141 => if gm_tag m141 q5 = 17 then gm_bI (f_X12_first q5 m141) (fun x144 m143 => j12 m143) else none) else none else if (y10 &&& (63 : Int32)) = 18 then gm_xl xs N (s9.1 + (1 : Int32)) (fun y145 => gm_xl xs N (s9.1 + (2 : Int32)) (fun y146 => gm_xl xs N (s9.1 + (3 : Int32)) (fun y147 => if gm_tag s9.2 q1 = 16 then gm_bL (f_X11_beats q1 y145 y146 y147 s9.2) (fun x149 m148 => gm_xl xs N (s9.1 + (1 : Int32)) (fun y150 => gm_xl xs N (s9.1 + (2 : Int32)) (fun y151 => gm_xl xs N (s9.1 + (3 : Int32)) (fun y152 => if gm_tag m148 q5 = 17 then gm_bL (f_X12_beats q5 y150 y151 y152 m148) (fun x154 m153 => j12 m153) else none)))) else none))) else if (y10 &&& (63 : Int32)) = 19 then if gm_tag s9.2 q1 = 16 then gm_bI (f_X11_swap q1 s9.2) (fun x156 m155 => if gm_tag m155 q5 = 17 then gm_bI (f_X12_swap q5 m155) (fun x158 m157 => j12 m157) else none) else none else if (y10 &&& (63 : Int32)) = 20 then gm_xl xs N (s9.1 + (1 : Int32)) (fun y159 => if gm_tag s9.2 q1 = 16 then gm_bI (f_X11_order q1 y159 s9.2) (fun x161 m160 => gm_xl xs N (s9.1 + (1 : Int32)) (fun y162 => if gm_tag m160 q5 = 17 then gm_bI (f_X12_order q5 y162 m160) (fun x164 m163 => j12 m163) else none)) else none) else if (y10 &&& (63 : Int32)) = 21 then gm_xl xs N (s9.1 + (1 : Int32)) (fun y165 => gm_xl xs N (s9.1 + (2 : Int32)) (fun y166 => if gm_tag s9.2 q1 = 16 then gm_bI (f_X11_clean q1 y165 y166 s9.2) (fun x168 m167 => gm_xl xs N (s9.1 + (1 : Int32)) (fun y169 => gm_xl xs N (s9.1 + (2 : Int32)) (fun y170 => if gm_tag m167 q5 = 17 then gm_bI (f_X12_clean q5 y169 y170 m167) (fun x172 m171 => j12 m171) else none))) else none)) else if (y10 &&& (63 : Int32)) = 22 then gm_xl xs N (s9.1 + (1 : Int32)) (fun y173 => gm_xl xs N (s9.1 + (2 : Int32)) (fun y174 => gm_xl xs N (s9.1 + (3 : Int32)) (fun y175 => if gm_tag s9.2 q1 = 16 then gm_bI (f_X11_see q1 y173 y174 y175 s9.2) (fun x177 m176 => gm_xl xs N (s9.1 + (1 : Int32)) (fun y178 => gm_xl xs N (s9.1 + (2 : Int32)) (fun y179 => gm_xl xs N (s9.1 + (3 : Int32)) (fun y180 => if gm_tag m176 q5 = 17 then gm_bI (f_X12_see q5 y178 y179 y180 m176) (fun x182 m181 => j12 m181) else none)))) else none))) else if (y10 &&& (63 : Int32)) = 23 then gm_xl xs N (s9.1 + (1 : Int32)) (fun y183 => gm_xl xs N (s9.1 + (2 : Int32)) (fun y184 => if gm_tag s9.2 q1 = 16 then gm_bI (f_X11_who q1 y183 y184 s9.2) (fun x186 m185 => gm_xl xs N (s9.1 + (1 : Int32)) (fun y187 => gm_xl xs N (s9.1 + (2 : Int32)) (fun y188 => if gm_tag m185 q5 = 17 then gm_bI (f_X12_who q5 y187 y188 m185) (fun x190 m189 => j12 m189) else none))) else none)) else if (y10 &&& (63 : Int32)) = 24 then gm_xl xs N (s9.1 + (1 : Int32)) (fun y191 => gm_xl xs N (s9.1 + (2 : Int32)) (fun y192 => if gm_tag s9.2 q1 = 16 then gm_bI (f_X11_firm q1 y191 y192 s9.2) (fun x194 m193 => gm_xl xs N (s9.1 + (1 : Int32)) (fun y195 => gm_xl xs N (s9.1 + (2 : Int32)) (fun y196 => if gm_tag m193 q5 = 17 then gm_bI (f_X12_firm q5 y195 y196 m193) (fun x198 m197 => j12 m197) else none))) else none)) else if (y10 &&& (63 : Int32)) = 25 then gm_xl xs N (s9.1 + (1 : Int32)) (fun y199 => if gm_tag s9.2 q1 = 16 then gm_bI (f_X11_had q1 y199 s9.2) (fun x201 m200 => gm_xl xs N (s9.1 + (1 : Int32)) (fun y202 => if gm_tag m200 q5 = 17 then gm_bI (f_X12_had q5 y202 m200) (fun x204 m203 => j12 m203) else none)) else none) else if (y10 &&& (63 : Int32)) = 26 then gm_xl xs N (s9.1 + (1 : Int32)) (fun y205 => gm_xl xs N (s9.1 + (2 : Int32)) (fun y206 => if gm_tag s9.2 q1 = 16 then gm_bL (f_X11_mean q1 y205 y206 s9.2) (fun x208 m207 => gm_xl xs N (s9.1 + (1 : Int32)) (fun y209 => gm_xl xs N (s9.1 + (2 : Int32)) (fun y210 => if gm_tag m207 q5 = 17 then gm_bL (f_X12_mean q5 y209 y210 m207) (fun x212 m211 => j12 m211) else none))) else none)) else if (y10 &&& (63 : Int32)) = 27 then gm_xl xs N (s9.1 + (1 : Int32)) (fun y213 => gm_xl xs N (s9.1 + (2 : Int32)) (fun y214 => if gm_tag s9.2 q1 = 16 then gm_bI (f_X11_plan q1 y213 y214 s9.2) (fun x216 m215 => gm_xl xs N (s9.1 + (1 : Int32)) (fun y217 => gm_xl xs N (s9.1 + (2 : Int32)) (fun y218 => if gm_tag m215 q5 = 17 then gm_bI (f_X12_plan q5 y217 y218 m215) (fun x220 m219 => j12 m219) else none))) else none)) else if (y10 &&& (63 : Int32)) = 28 then gm_xl xs N (s9.1 + (1 : Int32)) (fun y221 => if gm_tag s9.2 q1 = 16 then gm_bI (f_X11_done q1 y221 s9.2) (fun x223 m222 => gm_xl xs N (s9.1 + (1 : Int32)) (fun y224 => if gm_tag m222 q5 = 17 then gm_bI (f_X12_done q5 y224 m222) (fun x226 m225 => j12 m225) else none)) else none) else if (y10 &&& (63 : Int32)) = 29 then gm_xl xs N (s9.1 + (1 : Int32)) (fun y227 => gm_xl xs N (s9.1 + (2 : Int32)) (fun y228 => if gm_tag s9.2 q1 = 16 then gm_bI (f_X11_book q1 y227 y228 s9.2) (fun x230 m229 => gm_xl xs N (s9.1 + (1 : Int32)) (fun y231 => gm_xl xs N (s9.1 + (2 : Int32)) (fun y232 => if gm_tag m229 q5 = 17 then gm_bI (f_X12_book q5 y231 y232 m229) (fun x234 m233 => j12 m233) else none))) else none)) else if (y10 &&& (63 : Int32)) = 30 then if gm_tag s9.2 q1 = 16 then gm_bI (f_X11_looked q1 s9.2) (fun x236 m235 => if gm_tag m235 q5 = 17 then gm_bI (f_X12_looked q5 m235) (fun x238 m237 => j12 m237) else none) else none else if (y10 &&& (63 : Int32)) = 31 then gm_xl xs N (s9.1 + (1 : Int32)) (fun y239 => gm_xl xs N (s9.1 + (2 : Int32)) (fun y240 => gm_xl xs N (s9.1 + (3 : Int32)) (fun y241 => if gm_tag s9.2 q1 = 16 then gm_bI (f_X11_act q1 y239 y240 y241 s9.2) (fun x243 m242 => gm_xl xs N (s9.1 + (1 : Int32)) (fun y244 => gm_xl xs N (s9.1 + (2 : Int32)) (fun y245 => gm_xl xs N (s9.1 + (3 : Int32)) (fun y246 => if gm_tag m242 q5 = 17 then gm_bI (f_X12_act q5 y244 y245 y246 m242) (fun x248 m247 => j12 m247) else none)))) else none))) else if (y10 &&& (63 : Int32)) = 32 then gm_xl xs N (s9.1 + (1 : Int32)) (fun y249 => if gm_tag s9.2 q1 = 16 then gm_bI (f_X11_trace q1 y249 s9.2) (fun x251 m250 => gm_xl xs N (s9.1 + (1 : Int32)) (fun y252 => if gm_tag m250 q5 = 17 then gm_bI (f_X12_trace q5 y252 m250) (fun x254 m253 => j12 m253) else none)) else none) else if (y10 &&& (63 : Int32)) = 33 then gm_xl xs N (s9.1 + (1 : Int32)) (fun y255 => gm_xl xs N (s9.1 + (2 : Int32)) (fun y256 => if gm_tag s9.2 q1 = 16 then gm_bI (f_X11_as q1 y255 y256 s9.2) (fun x258 m257 => gm_xl xs N (s9.1 + (1 : Int32)) (fun y259 => gm_xl xs N (s9.1 + (2 : Int32)) (fun y260 => if gm_tag m257 q5 = 17 then gm_bI (f_X12_as q5 y259 y260 m257) (fun x262 m261 => j12 m261) else none))) else none)) else if (y10 &&& (63 : Int32)) = 34 then if gm_tag s9.2 q1 = 16 then gm_bI (f_X11_image q1 s9.2) (fun x264 m263 => if gm_tag m263 q5 = 17 then gm_bI (f_X12_image q5 m263) (fun x266 m265 => j12 m265) else none) else none else if (y10 &&& (63 : Int32)) = 35 then if gm_tag s9.2 q1 = 16 then gm_bI (f_X11_undo q1 s9.2) (fun x268 m267 => if gm_tag m267 q5 = 17 then gm_bI (f_X12_undo q5 m267) (fun x270 m269 => if x268 = x270 then j12 m269 else if (0 : Int32) = 0 ∨ (0 : Int32) = 1 then some (Sum.inr (some (.int (0 : Int32)), m269)) else none) else none) else none else if (y10 &&& (63 : Int32)) = 36 then gm_xl xs N (s9.1 + (1 : Int32)) (fun y271 => if gm_tag s9.2 q1 = 16 then gm_bI (f_X11_count q1 y271 s9.2) (fun x273 m272 => gm_xl xs N (s9.1 + (1 : Int32)) (fun y274 => if gm_tag m272 q5 = 17 then gm_bI (f_X12_count q5 y274 m272) (fun x276 m275 => j12 m275) else none)) else none) else j12 s9.2)) else none)
theorem gp_mk {β : Type} (M : gm_M) (t n : Nat) (f : Nat → gm_M → Option β) : gm_mk M t n f = f M.1.length (gm_nw M t n) := rfl
theorem gp_bV {β : Type} (m : gm_M) (f : gm_M → Option β) : gm_bV (some (none, m)) f = f m := rfl
theorem gp_law (xs : Nat → Int32) (N : Nat) : f_law xs N gi0 = gm_loop (gp_step xs N 1 65) 5000 (0, gi5) := by
  have e1 : gm_tag gi1 1 ≠ 0 := by decide +kernel
  have e3 : gm_tag gi3 65 ≠ 0 := by decide +kernel
  unfold f_law
  rw [gp_mk, show gi0.1.length = 1 from rfl, show gm_nw gi0 16 10 = gi1 from rfl, if_pos e1, gi_init, gp_bV, gp_mk, gi_len, show gm_nw gi2 17 23 = gi3 from rfl, if_pos e3, gi_init2, gp_bV]
  rfl
theorem gi_ofNat {N : Nat} (h : N ≤ 2048) : (Int32.ofNat N).toInt = N := by
  exact Int32.toInt_ofNat_of_lt (by omega)
def gp_I (N : Nat) (s : Int32 × gm_M) : Prop := REL s.2 ∧ 0 ≤ s.1.toInt ∧ s.1.toInt ≤ N
def gp_ms (s : Int32 × gm_M) : Int := 4096 - s.1.toInt
def gp_Q (b : Option Value × gm_M) : Prop := b.1 = some (.int 1)
set_option maxHeartbeats 8000000 in
set_option maxRecDepth 20000 in
theorem gp_one (xs : Nat → Int32) (N : Nat) (hN : N ≤ 2048) (s9 : Int32 × gm_M) (hs : gp_I N s9) : gw (gp_step xs N 1 65 s9) (gs_st (gp_I N) gp_ms s9 gp_Q) := by
  obtain ⟨hA, h0, h1⟩ := hs
  have l4 : (4 : Int32).toInt = 4 := rfl
  have l1 : (1 : Int32).toInt = 1 := rfl
  have l2 : (2 : Int32).toInt = 2 := rfl
  have l3 : (3 : Int32).toInt = 3 := rfl
  have eN := gi_ofNat hN
  have e4 : (Int32.ofNat N - (4 : Int32)).toInt = (N : Int) - 4 := by rw [gx_sub (by omega) (by omega), eN, l4]
  unfold gp_step
  have hg := gw_ix (i := s9.1) (n := 4097) h0 (by omega)
  refine gw_if ⟨hg.1, by omega⟩ ?_
  refine gw_lt (fun _ => ?_) (fun hl => ?_)
  · refine gw_if (by decide) ?_
    exact gw_some rfl
  have i4 : (s9.1 + (4 : Int32)).toInt = s9.1.toInt + (4 : Int32).toInt := gx_add (by omega) (by omega)
  have i1 : (s9.1 + (1 : Int32)).toInt = s9.1.toInt + (1 : Int32).toInt := gx_add (by omega) (by omega)
  have i2 : (s9.1 + (2 : Int32)).toInt = s9.1.toInt + (2 : Int32).toInt := gx_add (by omega) (by omega)
  have i3 : (s9.1 + (3 : Int32)).toInt = s9.1.toInt + (3 : Int32).toInt := gx_add (by omega) (by omega)
  refine gw_xl (by omega) (by omega) ?_
  refine gw_j (fun m => REL m) (fun m hm => ?_) (fun jj hj => ?_)
  · exact gw_some (show gp_I N (s9.1 + (4 : Int32), m) ∧ gp_ms (s9.1 + (4 : Int32), m) < gp_ms s9 ∧ 0 ≤ gp_ms (s9.1 + (4 : Int32), m) from ⟨⟨hm, by show 0 ≤ (s9.1 + (4 : Int32)).toInt; omega, by show (s9.1 + (4 : Int32)).toInt ≤ N; omega⟩, by show 4096 - (s9.1 + (4 : Int32)).toInt < 4096 - s9.1.toInt; omega, by show 0 ≤ 4096 - (s9.1 + (4 : Int32)).toInt; omega⟩)
  refine gw_ite (fun _ => ?_) (fun _ => ?_)
  · refine gw_xl (by omega) (by omega) ?_
    refine gw_if (hA.mi.1.t (r := 1) rfl) ?_
    refine gw_bI ((N_feed hA).q) (fun x m1 ⟨ht, hp⟩ => ?_)
    refine gw_xl (by omega) (by omega) ?_
    refine gw_if ht ?_
    refine gw_bI hp (fun y m2 hm => ?_)
    exact hj m2 hm
  refine gw_ite (fun _ => ?_) (fun _ => ?_)
  · refine gw_if (hA.mi.1.t (r := 1) rfl) ?_
    refine gw_bI ((N_afternoon hA).q) (fun x m1 ⟨ht, hp⟩ => ?_)
    refine gw_if ht ?_
    refine gw_bI hp (fun y m2 hm => ?_)
    exact hj m2 hm
  refine gw_ite (fun _ => ?_) (fun _ => ?_)
  · refine gw_xl (by omega) (by omega) ?_
    refine gw_xl (by omega) (by omega) ?_
    refine gw_if (hA.mi.1.t (r := 1) rfl) ?_
    refine gw_bI ((N_child hA).q) (fun x m1 ⟨ht, hp⟩ => ?_)
    refine gw_xl (by omega) (by omega) ?_
    refine gw_xl (by omega) (by omega) ?_
    refine gw_if ht ?_
    refine gw_bI hp (fun y m2 hm => ?_)
    exact hj m2 hm
  refine gw_ite (fun _ => ?_) (fun _ => ?_)
  · refine gw_xl (by omega) (by omega) ?_
    refine gw_xl (by omega) (by omega) ?_
    refine gw_if (hA.mi.1.t (r := 1) rfl) ?_
    refine gw_bI ((N_of hA).q) (fun x m1 ⟨ht, hp⟩ => ?_)
    refine gw_xl (by omega) (by omega) ?_
    refine gw_xl (by omega) (by omega) ?_
    refine gw_if ht ?_
    refine gw_bI hp (fun y m2 hm => ?_)
    exact hj m2 hm
  refine gw_ite (fun _ => ?_) (fun _ => ?_)
  · refine gw_xl (by omega) (by omega) ?_
    refine gw_xl (by omega) (by omega) ?_
    refine gw_xl (by omega) (by omega) ?_
    refine gw_if (hA.mi.1.t (r := 1) rfl) ?_
    refine gw_bI ((N_row hA).q) (fun x m1 ⟨ht, hp⟩ => ?_)
    refine gw_xl (by omega) (by omega) ?_
    refine gw_xl (by omega) (by omega) ?_
    refine gw_xl (by omega) (by omega) ?_
    refine gw_if ht ?_
    refine gw_bI hp (fun y m2 hm => ?_)
    exact hj m2 hm
  refine gw_ite (fun _ => ?_) (fun _ => ?_)
  · refine gw_xl (by omega) (by omega) ?_
    refine gw_xl (by omega) (by omega) ?_
    refine gw_xl (by omega) (by omega) ?_
    refine gw_if (hA.mi.1.t (r := 1) rfl) ?_
    refine gw_bI ((N_set hA).q) (fun x m1 ⟨ht, hp⟩ => ?_)
    refine gw_xl (by omega) (by omega) ?_
    refine gw_xl (by omega) (by omega) ?_
    refine gw_xl (by omega) (by omega) ?_
    refine gw_if ht ?_
    refine gw_bI hp (fun y m2 hm => ?_)
    exact hj m2 hm
  refine gw_ite (fun _ => ?_) (fun _ => ?_)
  · refine gw_xl (by omega) (by omega) ?_
    refine gw_if (hA.mi.1.t (r := 1) rfl) ?_
    refine gw_bI (M_told hA) (fun x m1 ⟨ht, hp⟩ => ?_)
    refine gw_xl (by omega) (by omega) ?_
    refine gw_if ht ?_
    refine gw_bI hp (fun y m2 hm => ?_)
    exact hj m2 hm
  refine gw_ite (fun _ => ?_) (fun _ => ?_)
  · refine gw_xl (by omega) (by omega) ?_
    refine gw_xl (by omega) (by omega) ?_
    refine gw_if (hA.mi.1.t (r := 1) rfl) ?_
    refine gw_bI ((N_blow hA).q) (fun x m1 ⟨ht, hp⟩ => ?_)
    refine gw_xl (by omega) (by omega) ?_
    refine gw_xl (by omega) (by omega) ?_
    refine gw_if ht ?_
    refine gw_bI hp (fun y m2 hm => ?_)
    exact hj m2 hm
  refine gw_ite (fun _ => ?_) (fun _ => ?_)
  · refine gw_xl (by omega) (by omega) ?_
    refine gw_if (hA.mi.1.t (r := 1) rfl) ?_
    refine gw_bI ((N_pass hA).q) (fun x m1 ⟨ht, hp⟩ => ?_)
    refine gw_xl (by omega) (by omega) ?_
    refine gw_if ht ?_
    refine gw_bI hp (fun y m2 hm => ?_)
    exact hj m2 hm
  refine gw_ite (fun _ => ?_) (fun _ => ?_)
  · refine gw_xl (by omega) (by omega) ?_
    refine gw_xl (by omega) (by omega) ?_
    refine gw_if (hA.mi.1.t (r := 1) rfl) ?_
    refine gw_bI (M_on hA) (fun x m1 ⟨ht, hp⟩ => ?_)
    refine gw_xl (by omega) (by omega) ?_
    refine gw_xl (by omega) (by omega) ?_
    refine gw_if ht ?_
    refine gw_bI hp (fun y m2 hm => ?_)
    exact hj m2 hm
  refine gw_ite (fun _ => ?_) (fun _ => ?_)
  · refine gw_xl (by omega) (by omega) ?_
    refine gw_xl (by omega) (by omega) ?_
    refine gw_if (hA.mi.1.t (r := 1) rfl) ?_
    refine gw_bI (M_when hA) (fun x m1 ⟨ht, hp⟩ => ?_)
    refine gw_xl (by omega) (by omega) ?_
    refine gw_xl (by omega) (by omega) ?_
    refine gw_if ht ?_
    refine gw_bI hp (fun y m2 hm => ?_)
    exact hj m2 hm
  refine gw_ite (fun _ => ?_) (fun _ => ?_)
  · refine gw_xl (by omega) (by omega) ?_
    refine gw_xl (by omega) (by omega) ?_
    refine gw_if (hA.mi.1.t (r := 1) rfl) ?_
    refine gw_bI (M_soon hA) (fun x m1 ⟨ht, hp⟩ => ?_)
    refine gw_xl (by omega) (by omega) ?_
    refine gw_xl (by omega) (by omega) ?_
    refine gw_if ht ?_
    refine gw_bI hp (fun y m2 hm => ?_)
    exact hj m2 hm
  refine gw_ite (fun _ => ?_) (fun _ => ?_)
  · refine gw_xl (by omega) (by omega) ?_
    refine gw_xl (by omega) (by omega) ?_
    refine gw_if (hA.mi.1.t (r := 1) rfl) ?_
    refine gw_bI (M_pieces hA) (fun x m1 ⟨ht, hp⟩ => ?_)
    refine gw_xl (by omega) (by omega) ?_
    refine gw_xl (by omega) (by omega) ?_
    refine gw_if ht ?_
    refine gw_bI hp (fun y m2 hm => ?_)
    exact hj m2 hm
  refine gw_ite (fun _ => ?_) (fun _ => ?_)
  · refine gw_xl (by omega) (by omega) ?_
    refine gw_xl (by omega) (by omega) ?_
    refine gw_if (hA.mi.1.t (r := 1) rfl) ?_
    refine gw_bI ((N_breaths hA).q) (fun x m1 ⟨ht, hp⟩ => ?_)
    refine gw_xl (by omega) (by omega) ?_
    refine gw_xl (by omega) (by omega) ?_
    refine gw_if ht ?_
    refine gw_bI hp (fun y m2 hm => ?_)
    exact hj m2 hm
  refine gw_ite (fun _ => ?_) (fun _ => ?_)
  · refine gw_xl (by omega) (by omega) ?_
    refine gw_if (hA.mi.1.t (r := 1) rfl) ?_
    refine gw_bI ((N_slack hA).q) (fun x m1 ⟨ht, hp⟩ => ?_)
    refine gw_xl (by omega) (by omega) ?_
    refine gw_if ht ?_
    refine gw_bI hp (fun y m2 hm => ?_)
    exact hj m2 hm
  refine gw_ite (fun _ => ?_) (fun _ => ?_)
  · refine gw_xl (by omega) (by omega) ?_
    refine gw_xl (by omega) (by omega) ?_
    refine gw_xl (by omega) (by omega) ?_
    refine gw_if (hA.mi.1.t (r := 1) rfl) ?_
    refine gw_bL (M_likely hA) (fun x m1 ⟨ht, hp⟩ => ?_)
    refine gw_xl (by omega) (by omega) ?_
    refine gw_xl (by omega) (by omega) ?_
    refine gw_xl (by omega) (by omega) ?_
    refine gw_if ht ?_
    refine gw_bL hp (fun y m2 hm => ?_)
    exact hj m2 hm
  refine gw_ite (fun _ => ?_) (fun _ => ?_)
  · refine gw_xl (by omega) (by omega) ?_
    refine gw_if (hA.mi.1.t (r := 1) rfl) ?_
    refine gw_bI (M_dare hA) (fun x m1 ⟨ht, hp⟩ => ?_)
    refine gw_xl (by omega) (by omega) ?_
    refine gw_if ht ?_
    refine gw_bI hp (fun y m2 hm => ?_)
    exact hj m2 hm
  refine gw_ite (fun _ => ?_) (fun _ => ?_)
  · refine gw_if (hA.mi.1.t (r := 1) rfl) ?_
    refine gw_bI (M_first hA) (fun x m1 ⟨ht, hp⟩ => ?_)
    refine gw_if ht ?_
    refine gw_bI hp (fun y m2 hm => ?_)
    exact hj m2 hm
  refine gw_ite (fun _ => ?_) (fun _ => ?_)
  · refine gw_xl (by omega) (by omega) ?_
    refine gw_xl (by omega) (by omega) ?_
    refine gw_xl (by omega) (by omega) ?_
    refine gw_if (hA.mi.1.t (r := 1) rfl) ?_
    refine gw_bL (M_beats hA) (fun x m1 ⟨ht, hp⟩ => ?_)
    refine gw_xl (by omega) (by omega) ?_
    refine gw_xl (by omega) (by omega) ?_
    refine gw_xl (by omega) (by omega) ?_
    refine gw_if ht ?_
    refine gw_bL hp (fun y m2 hm => ?_)
    exact hj m2 hm
  refine gw_ite (fun _ => ?_) (fun _ => ?_)
  · refine gw_if (hA.mi.1.t (r := 1) rfl) ?_
    refine gw_bI (M_swap hA) (fun x m1 ⟨ht, hp⟩ => ?_)
    refine gw_if ht ?_
    refine gw_bI hp (fun y m2 hm => ?_)
    exact hj m2 hm
  refine gw_ite (fun _ => ?_) (fun _ => ?_)
  · refine gw_xl (by omega) (by omega) ?_
    refine gw_if (hA.mi.1.t (r := 1) rfl) ?_
    refine gw_bI (M_order hA) (fun x m1 ⟨ht, hp⟩ => ?_)
    refine gw_xl (by omega) (by omega) ?_
    refine gw_if ht ?_
    refine gw_bI hp (fun y m2 hm => ?_)
    exact hj m2 hm
  refine gw_ite (fun _ => ?_) (fun _ => ?_)
  · refine gw_xl (by omega) (by omega) ?_
    refine gw_xl (by omega) (by omega) ?_
    refine gw_if (hA.mi.1.t (r := 1) rfl) ?_
    refine gw_bI ((N_clean hA).q) (fun x m1 ⟨ht, hp⟩ => ?_)
    refine gw_xl (by omega) (by omega) ?_
    refine gw_xl (by omega) (by omega) ?_
    refine gw_if ht ?_
    refine gw_bI hp (fun y m2 hm => ?_)
    exact hj m2 hm
  refine gw_ite (fun _ => ?_) (fun _ => ?_)
  · refine gw_xl (by omega) (by omega) ?_
    refine gw_xl (by omega) (by omega) ?_
    refine gw_xl (by omega) (by omega) ?_
    refine gw_if (hA.mi.1.t (r := 1) rfl) ?_
    refine gw_bI ((N_see hA).q) (fun x m1 ⟨ht, hp⟩ => ?_)
    refine gw_xl (by omega) (by omega) ?_
    refine gw_xl (by omega) (by omega) ?_
    refine gw_xl (by omega) (by omega) ?_
    refine gw_if ht ?_
    refine gw_bI hp (fun y m2 hm => ?_)
    exact hj m2 hm
  refine gw_ite (fun _ => ?_) (fun _ => ?_)
  · refine gw_xl (by omega) (by omega) ?_
    refine gw_xl (by omega) (by omega) ?_
    refine gw_if (hA.mi.1.t (r := 1) rfl) ?_
    refine gw_bI (M_who hA) (fun x m1 ⟨ht, hp⟩ => ?_)
    refine gw_xl (by omega) (by omega) ?_
    refine gw_xl (by omega) (by omega) ?_
    refine gw_if ht ?_
    refine gw_bI hp (fun y m2 hm => ?_)
    exact hj m2 hm
  refine gw_ite (fun _ => ?_) (fun _ => ?_)
  · refine gw_xl (by omega) (by omega) ?_
    refine gw_xl (by omega) (by omega) ?_
    refine gw_if (hA.mi.1.t (r := 1) rfl) ?_
    refine gw_bI (M_firm hA) (fun x m1 ⟨ht, hp⟩ => ?_)
    refine gw_xl (by omega) (by omega) ?_
    refine gw_xl (by omega) (by omega) ?_
    refine gw_if ht ?_
    refine gw_bI hp (fun y m2 hm => ?_)
    exact hj m2 hm
  refine gw_ite (fun _ => ?_) (fun _ => ?_)
  · refine gw_xl (by omega) (by omega) ?_
    refine gw_if (hA.mi.1.t (r := 1) rfl) ?_
    refine gw_bI (M_had hA) (fun x m1 ⟨ht, hp⟩ => ?_)
    refine gw_xl (by omega) (by omega) ?_
    refine gw_if ht ?_
    refine gw_bI hp (fun y m2 hm => ?_)
    exact hj m2 hm
  refine gw_ite (fun _ => ?_) (fun _ => ?_)
  · refine gw_xl (by omega) (by omega) ?_
    refine gw_xl (by omega) (by omega) ?_
    refine gw_if (hA.mi.1.t (r := 1) rfl) ?_
    refine gw_bL (M_mean hA) (fun x m1 ⟨ht, hp⟩ => ?_)
    refine gw_xl (by omega) (by omega) ?_
    refine gw_xl (by omega) (by omega) ?_
    refine gw_if ht ?_
    refine gw_bL hp (fun y m2 hm => ?_)
    exact hj m2 hm
  refine gw_ite (fun _ => ?_) (fun _ => ?_)
  · refine gw_xl (by omega) (by omega) ?_
    refine gw_xl (by omega) (by omega) ?_
    refine gw_if (hA.mi.1.t (r := 1) rfl) ?_
    refine gw_bI ((N_plan hA).q) (fun x m1 ⟨ht, hp⟩ => ?_)
    refine gw_xl (by omega) (by omega) ?_
    refine gw_xl (by omega) (by omega) ?_
    refine gw_if ht ?_
    refine gw_bI hp (fun y m2 hm => ?_)
    exact hj m2 hm
  refine gw_ite (fun _ => ?_) (fun _ => ?_)
  · refine gw_xl (by omega) (by omega) ?_
    refine gw_if (hA.mi.1.t (r := 1) rfl) ?_
    refine gw_bI (M_done hA) (fun x m1 ⟨ht, hp⟩ => ?_)
    refine gw_xl (by omega) (by omega) ?_
    refine gw_if ht ?_
    refine gw_bI hp (fun y m2 hm => ?_)
    exact hj m2 hm
  refine gw_ite (fun _ => ?_) (fun _ => ?_)
  · refine gw_xl (by omega) (by omega) ?_
    refine gw_xl (by omega) (by omega) ?_
    refine gw_if (hA.mi.1.t (r := 1) rfl) ?_
    refine gw_bI ((N_book hA).q) (fun x m1 ⟨ht, hp⟩ => ?_)
    refine gw_xl (by omega) (by omega) ?_
    refine gw_xl (by omega) (by omega) ?_
    refine gw_if ht ?_
    refine gw_bI hp (fun y m2 hm => ?_)
    exact hj m2 hm
  refine gw_ite (fun _ => ?_) (fun _ => ?_)
  · refine gw_if (hA.mi.1.t (r := 1) rfl) ?_
    refine gw_bI (M_looked hA) (fun x m1 ⟨ht, hp⟩ => ?_)
    refine gw_if ht ?_
    refine gw_bI hp (fun y m2 hm => ?_)
    exact hj m2 hm
  refine gw_ite (fun _ => ?_) (fun _ => ?_)
  · refine gw_xl (by omega) (by omega) ?_
    refine gw_xl (by omega) (by omega) ?_
    refine gw_xl (by omega) (by omega) ?_
    refine gw_if (hA.mi.1.t (r := 1) rfl) ?_
    refine gw_bI ((N_act hA).q) (fun x m1 ⟨ht, hp⟩ => ?_)
    refine gw_xl (by omega) (by omega) ?_
    refine gw_xl (by omega) (by omega) ?_
    refine gw_xl (by omega) (by omega) ?_
    refine gw_if ht ?_
    refine gw_bI hp (fun y m2 hm => ?_)
    exact hj m2 hm
  refine gw_ite (fun _ => ?_) (fun _ => ?_)
  · refine gw_xl (by omega) (by omega) ?_
    refine gw_if (hA.mi.1.t (r := 1) rfl) ?_
    refine gw_bI ((N_trace hA).q) (fun x m1 ⟨ht, hp⟩ => ?_)
    refine gw_xl (by omega) (by omega) ?_
    refine gw_if ht ?_
    refine gw_bI hp (fun y m2 hm => ?_)
    exact hj m2 hm
  refine gw_ite (fun _ => ?_) (fun _ => ?_)
  · refine gw_xl (by omega) (by omega) ?_
    refine gw_xl (by omega) (by omega) ?_
    refine gw_if (hA.mi.1.t (r := 1) rfl) ?_
    refine gw_bI ((N_as hA).q) (fun x m1 ⟨ht, hp⟩ => ?_)
    refine gw_xl (by omega) (by omega) ?_
    refine gw_xl (by omega) (by omega) ?_
    refine gw_if ht ?_
    refine gw_bI hp (fun y m2 hm => ?_)
    exact hj m2 hm
  refine gw_ite (fun _ => ?_) (fun _ => ?_)
  · refine gw_if (hA.mi.1.t (r := 1) rfl) ?_
    refine gw_bI ((N_image hA).q) (fun x m1 ⟨ht, hp⟩ => ?_)
    refine gw_if ht ?_
    refine gw_bI hp (fun y m2 hm => ?_)
    exact hj m2 hm
  refine gw_ite (fun _ => ?_) (fun _ => ?_)
  · refine gw_if (hA.mi.1.t (r := 1) rfl) ?_
    refine gw_bI (N_undo hA) (fun x m1 ⟨ht, hp⟩ => ?_)
    refine gw_if ht ?_
    refine gw_bI hp (fun y m2 ⟨hy, hm⟩ => ?_)
    subst hy
    refine gw_if rfl ?_
    exact hj m2 hm
  refine gw_ite (fun _ => ?_) (fun _ => ?_)
  · refine gw_xl (by omega) (by omega) ?_
    refine gw_if (hA.mi.1.t (r := 1) rfl) ?_
    refine gw_bI ((N_count hA).q) (fun x m1 ⟨ht, hp⟩ => ?_)
    refine gw_xl (by omega) (by omega) ?_
    refine gw_if ht ?_
    refine gw_bI hp (fun y m2 hm => ?_)
    exact hj m2 hm
  exact hj s9.2 hA
theorem gp_all (xs : Nat → Int32) {N : Nat} (hN : N ≤ 2048) : ∃ me, f_law xs N gi0 = some (some (.int 1), me) := by
  rw [gp_law]
  have l0 : (0 : Int32).toInt = 0 := rfl
  obtain ⟨b, e, hb⟩ := gw_loop (gp_I N) gp_ms (gp_one xs N hN) 5000 (0, gi5) ⟨REL_0, by show 0 ≤ (0 : Int32).toInt; omega, by show (0 : Int32).toInt ≤ N; omega⟩ (by show 4096 - (0 : Int32).toInt < 5000; omega) (by show 0 ≤ 4096 - (0 : Int32).toInt; omega)
  obtain ⟨v, m⟩ := b
  refine ⟨m, ?_⟩
  rw [e]
  have hv : v = some (.int 1) := hb
  rw [hv]
