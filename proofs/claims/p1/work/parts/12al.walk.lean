set_option maxRecDepth 100000 in
def c183 (rec : Nat → List Value → Mem → XA) (a0 : Option Nat) (M0 : Mem) : XA :=
  nn a0 <|
  nA 101 M0 ((3000 : Int32)) fun x1 M2 =>
  ptP (13, 157) M2 a0 0 x1 fun M3 =>
  nA 100 M3 ((8 : Int32)) fun x4 M5 =>
  ptP (13, 157) M5 a0 3 x4 fun M6 =>
  nA 104 M6 ((64 : Int32)) fun x7 M8 =>
  ptP (13, 157) M8 a0 4 x7 fun M9 =>
  nA 100 M9 ((64 : Int32)) fun x10 M11 =>
  ptP (13, 157) M11 a0 5 x10 fun M12 =>
  nA 100 M12 ((64 : Int32)) fun x13 M14 =>
  ptP (13, 157) M14 a0 6 x13 fun M15 =>
  nA 100 M15 ((192 : Int32)) fun x16 M17 =>
  ptP (13, 157) M17 a0 7 x16 fun M18 =>
  nA 100 M18 ((64 : Int32)) fun x19 M20 =>
  ptP (13, 157) M20 a0 8 x19 fun M21 =>
  nA 100 M21 ((192 : Int32)) fun x22 M23 =>
  ptP (13, 157) M23 a0 9 x22 fun M24 =>
  nA 100 M24 ((8 : Int32)) fun x25 M26 =>
  ptP (13, 157) M26 a0 10 x25 fun M27 =>
  nA 104 M27 ((768 : Int32)) fun x28 M29 =>
  ptP (13, 157) M29 a0 11 x28 fun M30 =>
  nA 100 M30 ((768 : Int32)) fun x31 M32 =>
  ptP (13, 157) M32 a0 12 x31 fun M33 =>
  nA 100 M33 ((768 : Int32)) fun x34 M35 =>
  ptP (13, 157) M35 a0 13 x34 fun M36 =>
  nA 102 M36 ((768 : Int32)) fun x37 M38 =>
  ptP (13, 157) M38 a0 14 x37 fun M39 =>
  nA 100 M39 ((768 : Int32)) fun x40 M41 =>
  ptP (13, 157) M41 a0 15 x40 fun M42 =>
  nA 100 M42 ((768 : Int32)) fun x43 M44 =>
  ptP (13, 157) M44 a0 16 x43 fun M45 =>
  nA 100 M45 ((8 : Int32)) fun x46 M47 =>
  ptP (13, 157) M47 a0 17 x46 fun M48 =>
  nA 104 M48 ((128 : Int32)) fun x49 M50 =>
  ptP (13, 157) M50 a0 18 x49 fun M51 =>
  nA 100 M51 ((128 : Int32)) fun x52 M53 =>
  ptP (13, 157) M53 a0 19 x52 fun M54 =>
  nA 100 M54 ((128 : Int32)) fun x55 M56 =>
  ptP (13, 157) M56 a0 20 x55 fun M57 =>
  nA 100 M57 ((128 : Int32)) fun x58 M59 =>
  ptP (13, 157) M59 a0 21 x58 fun M60 =>
  nA 102 M60 ((128 : Int32)) fun x61 M62 =>
  ptP (13, 157) M62 a0 22 x61 fun M63 =>
  nA 100 M63 ((128 : Int32)) fun x64 M65 =>
  ptP (13, 157) M65 a0 23 x64 fun M66 =>
  nA 100 M66 ((128 : Int32)) fun x67 M68 =>
  ptP (13, 157) M68 a0 24 x67 fun M69 =>
  nA 100 M69 ((8 : Int32)) fun x70 M71 =>
  ptP (13, 157) M71 a0 25 x70 fun M72 =>
  nA 104 M72 ((48 : Int32)) fun x73 M74 =>
  ptP (13, 157) M74 a0 26 x73 fun M75 =>
  nA 100 M75 ((48 : Int32)) fun x76 M77 =>
  ptP (13, 157) M77 a0 27 x76 fun M78 =>
  nA 100 M78 ((48 : Int32)) fun x79 M80 =>
  ptP (13, 157) M80 a0 28 x79 fun M81 =>
  nA 100 M81 ((8 : Int32)) fun x82 M83 =>
  ptP (13, 157) M83 a0 29 x82 fun M84 =>
  nA 101 M84 ((8000 : Int32)) fun x85 M86 =>
  ptP (13, 157) M86 a0 30 x85 fun M87 =>
  nA 100 M87 ((8000 : Int32)) fun x88 M89 =>
  ptP (13, 157) M89 a0 31 x88 fun M90 =>
  nA 101 M90 ((8000 : Int32)) fun x91 M92 =>
  ptP (13, 157) M92 a0 32 x91 fun M93 =>
  nA 100 M93 ((8 : Int32)) fun x94 M95 =>
  ptP (13, 157) M95 a0 33 x94 fun M96 =>
  nA 103 M96 ((8000 : Int32)) fun x97 M98 =>
  ptP (13, 157) M98 a0 34 x97 fun M99 =>
  nA 104 M99 ((28 : Int32)) fun x100 M101 =>
  cL (rec 187 [va_rf ((some 5))] M101) fun x103 M102 =>
  asL M102 x100 ((0 : Int32)) x103 fun M104 =>
  cL (rec 187 [va_rf ((some 6))] M104) fun x106 M105 =>
  asL M105 x100 ((1 : Int32)) x106 fun M107 =>
  cL (rec 187 [va_rf ((some 7))] M107) fun x109 M108 =>
  asL M108 x100 ((2 : Int32)) x109 fun M110 =>
  cL (rec 187 [va_rf ((some 8))] M110) fun x112 M111 =>
  asL M111 x100 ((3 : Int32)) x112 fun M113 =>
  cL (rec 187 [va_rf ((some 9))] M113) fun x115 M114 =>
  asL M114 x100 ((4 : Int32)) x115 fun M116 =>
  cL (rec 187 [va_rf ((some 10))] M116) fun x118 M117 =>
  asL M117 x100 ((5 : Int32)) x118 fun M119 =>
  cL (rec 187 [va_rf ((some 11))] M119) fun x121 M120 =>
  asL M120 x100 ((6 : Int32)) x121 fun M122 =>
  cL (rec 187 [va_rf ((some 12))] M122) fun x124 M123 =>
  asL M123 x100 ((7 : Int32)) x124 fun M125 =>
  cL (rec 187 [va_rf ((some 13))] M125) fun x127 M126 =>
  asL M126 x100 ((8 : Int32)) x127 fun M128 =>
  cL (rec 187 [va_rf ((some 14))] M128) fun x130 M129 =>
  asL M129 x100 ((9 : Int32)) x130 fun M131 =>
  cL (rec 187 [va_rf ((some 15))] M131) fun x133 M132 =>
  asL M132 x100 ((10 : Int32)) x133 fun M134 =>
  cL (rec 187 [va_rf ((some 16))] M134) fun x136 M135 =>
  asL M135 x100 ((11 : Int32)) x136 fun M137 =>
  cL (rec 187 [va_rf ((some 17))] M137) fun x139 M138 =>
  asL M138 x100 ((12 : Int32)) x139 fun M140 =>
  cL (rec 187 [va_rf ((some 18))] M140) fun x142 M141 =>
  asL M141 x100 ((13 : Int32)) x142 fun M143 =>
  cL (rec 187 [va_rf ((some 19))] M143) fun x145 M144 =>
  asL M144 x100 ((14 : Int32)) x145 fun M146 =>
  cL (rec 187 [va_rf ((some 20))] M146) fun x148 M147 =>
  asL M147 x100 ((15 : Int32)) x148 fun M149 =>
  cL (rec 187 [va_rf ((some 21))] M149) fun x151 M150 =>
  asL M150 x100 ((16 : Int32)) x151 fun M152 =>
  cL (rec 187 [va_rf ((some 22))] M152) fun x154 M153 =>
  asL M153 x100 ((17 : Int32)) x154 fun M155 =>
  cL (rec 187 [va_rf ((some 23))] M155) fun x157 M156 =>
  asL M156 x100 ((18 : Int32)) x157 fun M158 =>
  cL (rec 187 [va_rf ((some 24))] M158) fun x160 M159 =>
  asL M159 x100 ((19 : Int32)) x160 fun M161 =>
  cL (rec 187 [va_rf ((some 25))] M161) fun x163 M162 =>
  asL M162 x100 ((20 : Int32)) x163 fun M164 =>
  cL (rec 187 [va_rf ((some 26))] M164) fun x166 M165 =>
  asL M165 x100 ((21 : Int32)) x166 fun M167 =>
  cL (rec 187 [va_rf ((some 27))] M167) fun x169 M168 =>
  asL M168 x100 ((22 : Int32)) x169 fun M170 =>
  cL (rec 187 [va_rf ((some 28))] M170) fun x172 M171 =>
  asL M171 x100 ((23 : Int32)) x172 fun M173 =>
  cL (rec 187 [va_rf ((some 29))] M173) fun x175 M174 =>
  asL M174 x100 ((24 : Int32)) x175 fun M176 =>
  cL (rec 187 [va_rf ((some 30))] M176) fun x178 M177 =>
  asL M177 x100 ((25 : Int32)) x178 fun M179 =>
  cL (rec 187 [va_rf ((some 31))] M179) fun x181 M180 =>
  asL M180 x100 ((26 : Int32)) x181 fun M182 =>
  cL (rec 187 [va_rf ((some 32))] M182) fun x184 M183 =>
  asL M183 x100 ((27 : Int32)) x184 fun M185 =>
  ptP (13, 157) M185 a0 35 x100 fun M186 =>
  nA 101 M186 ((4000 : Int32)) fun x187 M188 =>
  ptP (13, 157) M188 a0 44 x187 fun M189 =>
  nA 100 M189 ((4000 : Int32)) fun x190 M191 =>
  ptP (13, 157) M191 a0 45 x190 fun M192 =>
  nA 101 M192 ((4000 : Int32)) fun x193 M194 =>
  ptP (13, 157) M194 a0 46 x193 fun M195 =>
  nA 102 M195 ((4000 : Int32)) fun x196 M197 =>
  ptP (13, 157) M197 a0 47 x196 fun M198 =>
  nA 104 M198 ((11 : Int32)) fun x199 M200 =>
  ptP (13, 157) M200 a0 52 x199 fun M201 =>
  nA 100 M201 ((2000 : Int32)) fun x202 M203 =>
  ptP (13, 157) M203 a0 54 x202 fun M204 =>
  nA 100 M204 ((2000 : Int32)) fun x205 M206 =>
  ptP (13, 157) M206 a0 55 x205 fun M207 =>
  nA 104 M207 ((2000 : Int32)) fun x208 M209 =>
  ptP (13, 157) M209 a0 56 x208 fun M210 =>
  nA 100 M210 ((2000 : Int32)) fun x211 M212 =>
  ptP (13, 157) M212 a0 57 x211 fun M213 =>
  nA 104 M213 ((2000 : Int32)) fun x214 M215 =>
  ptP (13, 157) M215 a0 58 x214 fun M216 =>
  nA 100 M216 ((2000 : Int32)) fun x217 M218 =>
  ptP (13, 157) M218 a0 59 x217 fun M219 =>
  nA 100 M219 ((2000 : Int32)) fun x220 M221 =>
  ptP (13, 157) M221 a0 60 x220 fun M222 =>
  nA 100 M222 ((2000 : Int32)) fun x223 M224 =>
  ptP (13, 157) M224 a0 61 x223 fun M225 =>
  nA 100 M225 ((48 : Int32)) fun x226 M227 =>
  ptP (13, 157) M227 a0 63 x226 fun M228 =>
  nA 100 M228 ((8 : Int32)) fun x229 M230 =>
  ptP (13, 157) M230 a0 68 x229 fun M231 =>
  nA 100 M231 ((16 : Int32)) fun x232 M233 =>
  ptP (13, 157) M233 a0 69 x232 fun M234 =>
  nA 100 M234 ((192 : Int32)) fun x235 M236 =>
  ptP (13, 157) M236 a0 70 x235 fun M237 =>
  nA 100 M237 ((9600 : Int32)) fun x238 M239 =>
  ptP (13, 157) M239 a0 71 x238 fun M240 =>
  nA 100 M240 ((3000 : Int32)) fun x241 M242 =>
  ptP (13, 157) M242 a0 72 x241 fun M243 =>
  nA 100 M243 ((120 : Int32)) fun x244 M245 =>
  ptP (13, 157) M245 a0 74 x244 fun M246 =>
  nA 100 M246 ((300 : Int32)) fun x247 M248 =>
  ptP (13, 157) M248 a0 75 x247 fun M249 =>
  ptI (13, 157) M249 a0 77 ((200 : Int32)) fun M250 =>
  ptI (13, 157) M250 a0 78 ((1 : Int32)) fun M251 =>
  ptI (13, 157) M251 a0 90 ((-1 : Int32)) fun M252 =>
  nA 100 M252 ((8000 : Int32)) fun x253 M254 =>
  ptP (13, 157) M254 a0 94 x253 fun M255 =>
  nA 100 M255 ((8000 : Int32)) fun x256 M257 =>
  ptP (13, 157) M257 a0 95 x256 fun M258 =>
  nA 100 M258 ((8000 : Int32)) fun x259 M260 =>
  ptP (13, 157) M260 a0 96 x259 fun M261 =>
  nA 100 M261 ((1001 : Int32)) fun x262 M263 =>
  ptP (13, 157) M263 a0 99 x262 fun M264 =>
  nA 100 M264 ((1001 : Int32)) fun x265 M266 =>
  ptP (13, 157) M266 a0 100 x265 fun M267 =>
  nA 102 M267 ((8 : Int32)) fun x268 M269 =>
  ptP (13, 157) M269 a0 104 x268 fun M270 =>
  nA 100 M270 ((128 : Int32)) fun x271 M272 =>
  ptP (13, 157) M272 a0 105 x271 fun M273 =>
  nA 100 M273 ((128 : Int32)) fun x274 M275 =>
  ptP (13, 157) M275 a0 106 x274 fun M276 =>
  nA 100 M276 ((128 : Int32)) fun x277 M278 =>
  ptP (13, 157) M278 a0 107 x277 fun M279 =>
  nA 100 M279 ((128 : Int32)) fun x280 M281 =>
  ptP (13, 157) M281 a0 108 x280 fun M282 =>
  nA 100 M282 ((4 : Int32)) fun x283 M284 =>
  ptP (13, 157) M284 a0 110 x283 fun M285 =>
  nA 100 M285 ((8 : Int32)) fun x286 M287 =>
  asI 100 M287 x286 ((0 : Int32)) (((-1 : Int32))) fun M288 =>
  asI 100 M288 x286 ((1 : Int32)) (((-1 : Int32))) fun M289 =>
  asI 100 M289 x286 ((2 : Int32)) (((-1 : Int32))) fun M290 =>
  asI 100 M290 x286 ((3 : Int32)) (((-1 : Int32))) fun M291 =>
  asI 100 M291 x286 ((4 : Int32)) (((-1 : Int32))) fun M292 =>
  asI 100 M292 x286 ((5 : Int32)) (((-1 : Int32))) fun M293 =>
  asI 100 M293 x286 ((6 : Int32)) (((-1 : Int32))) fun M294 =>
  asI 100 M294 x286 ((7 : Int32)) (((-1 : Int32))) fun M295 =>
  ptP (13, 157) M295 a0 112 x286 fun M296 =>
  nA 100 M296 ((8 : Int32)) fun x297 M298 =>
  ptP (13, 157) M298 a0 113 x297 fun M299 =>
  nA 100 M299 ((8 : Int32)) fun x300 M301 =>
  ptP (13, 157) M301 a0 114 x300 fun M302 =>
  nA 100 M302 ((8 : Int32)) fun x303 M304 =>
  ptP (13, 157) M304 a0 115 x303 fun M305 =>
  nA 100 M305 ((64 : Int32)) fun x306 M307 =>
  ptP (13, 157) M307 a0 116 x306 fun M308 =>
  nA 100 M308 ((64 : Int32)) fun x309 M310 =>
  ptP (13, 157) M310 a0 117 x309 fun M311 =>
  nA 102 M311 ((64 : Int32)) fun x312 M313 =>
  ptP (13, 157) M313 a0 118 x312 fun M314 =>
  nA 100 M314 ((64 : Int32)) fun x315 M316 =>
  ptP (13, 157) M316 a0 119 x315 fun M317 =>
  nA 100 M317 ((8 : Int32)) fun x318 M319 =>
  ptP (13, 157) M319 a0 120 x318 fun M320 =>
  nA 100 M320 ((400 : Int32)) fun x321 M322 =>
  ptP (13, 157) M322 a0 121 x321 fun M323 =>
  nA 100 M323 ((1600 : Int32)) fun x324 M325 =>
  ptP (13, 157) M325 a0 122 x324 fun M326 =>
  nA 102 M326 ((8 : Int32)) fun x327 M328 =>
  ptP (13, 157) M328 a0 123 x327 fun M329 =>
  nA 100 M329 ((8000 : Int32)) fun x330 M331 =>
  ptP (13, 157) M331 a0 124 x330 fun M332 =>
  nA 100 M332 ((1000 : Int32)) fun x333 M334 =>
  ptP (13, 157) M334 a0 125 x333 fun M335 =>
  nA 100 M335 ((8 : Int32)) fun x336 M337 =>
  ptP (13, 157) M337 a0 126 x336 fun M338 =>
  nA 100 M338 ((16 : Int32)) fun x339 M340 =>
  ptP (13, 157) M340 a0 127 x339 fun M341 =>
  nA 100 M341 ((16 : Int32)) fun x342 M343 =>
  ptP (13, 157) M343 a0 128 x342 fun M344 =>
  nA 100 M344 ((4 : Int32)) fun x345 M346 =>
  ptP (13, 157) M346 a0 134 x345 fun M347 =>
  nA 100 M347 ((4 : Int32)) fun x348 M349 =>
  ptP (13, 157) M349 a0 135 x348 fun M350 =>
  nA 100 M350 ((8 : Int32)) fun x351 M352 =>
  ptP (13, 157) M352 a0 139 x351 fun M353 =>
  nA 100 M353 ((8 : Int32)) fun x354 M355 =>
  ptP (13, 157) M355 a0 140 x354 fun M356 =>
  nA 100 M356 ((64 : Int32)) fun x357 M358 =>
  ptP (13, 157) M358 a0 141 x357 fun M359 =>
  nA 100 M359 ((64 : Int32)) fun x360 M361 =>
  ptP (13, 157) M361 a0 142 x360 fun M362 =>
  nA 100 M362 ((64 : Int32)) fun x363 M364 =>
  ptP (13, 157) M364 a0 143 x363 fun M365 =>
  nA 100 M365 ((64 : Int32)) fun x366 M367 =>
  ptP (13, 157) M367 a0 144 x366 fun M368 =>
  nA 100 M368 ((64 : Int32)) fun x369 M370 =>
  ptP (13, 157) M370 a0 145 x369 fun M371 =>
  nA 100 M371 ((8 : Int32)) fun x372 M373 =>
  ptP (13, 157) M373 a0 146 x372 fun M374 =>
  nA 100 M374 ((9 : Int32)) fun x375 M376 =>
  ptP (13, 157) M376 a0 147 x375 fun M377 =>
  nA 100 M377 ((16 : Int32)) fun x378 M379 =>
  ptP (13, 157) M379 a0 152 x378 fun M380 =>
  nA 100 M380 ((16 : Int32)) fun x381 M382 =>
  ptP (13, 157) M382 a0 153 x381 fun M383 =>
  nA 100 M383 ((8 : Int32)) fun x384 M385 =>
  ptP (13, 157) M385 a0 155 x384 fun M386 =>
  nA 100 M386 ((8 : Int32)) fun x387 M388 =>
  ptP (13, 157) M388 a0 156 x387 fun M389 =>
  some (.null, M389)
def b183 (rec : Nat → List Value → Mem → XA) (as : List Value) (M0 : Mem) : XA := aR as fun a0 as => aZ as (c183 rec a0 M0)
set_option maxRecDepth 100000 in
set_option maxHeartbeats 4000000 in
theorem k183 {S : XS} {G : XG} {K : Nat × Nat} {l : Launch} {d : Nat} {rec : Nat → List Value → Mem → XA} (hs : XSnd l xmt rec d) (a0 : Option Nat) (M0 : Mem) : Xe S G K l (yX12_init, cX12_init, 1, none) d 0 [some (va_rf a0)] [] M0 (c183 rec a0 M0) := by
  unfold c183
  refine x_aload_n dX12_init_0 rfl ?_
  refine xoiX12 rfl (Nat.le_of_ble_eq_true rfl) dX12_init_1 ?_
  refine x_aload_n dX12_init_4 rfl ?_
  refine x_sipush (v := 3000) dX12_init_5 (by decide) ?_
  refine x_newa101 dX12_init_8 (fun x1 M2 => ?_)
  refine pfX12_7 rfl rfl dX12_init_10 (fun M3 => ?_)
  refine x_aload_n dX12_init_13 rfl ?_
  refine x_bipush (v := 8) dX12_init_14 (by decide) ?_
  refine x_newa100 dX12_init_16 (fun x4 M5 => ?_)
  refine pfX12_13 rfl rfl dX12_init_18 (fun M6 => ?_)
  refine x_aload_n dX12_init_21 rfl ?_
  refine x_bipush (v := 64) dX12_init_22 (by decide) ?_
  refine x_newa104 dX12_init_24 (fun x7 M8 => ?_)
  refine pfX12_17 rfl rfl dX12_init_26 (fun M9 => ?_)
  refine x_aload_n dX12_init_29 rfl ?_
  refine x_bipush (v := 64) dX12_init_30 (by decide) ?_
  refine x_newa100 dX12_init_32 (fun x10 M11 => ?_)
  refine pfX12_21 rfl rfl dX12_init_34 (fun M12 => ?_)
  refine x_aload_n dX12_init_37 rfl ?_
  refine x_bipush (v := 64) dX12_init_38 (by decide) ?_
  refine x_newa100 dX12_init_40 (fun x13 M14 => ?_)
  refine pfX12_24 rfl rfl dX12_init_42 (fun M15 => ?_)
  refine x_aload_n dX12_init_45 rfl ?_
  refine x_sipush (v := 192) dX12_init_46 (by decide) ?_
  refine x_newa100 dX12_init_49 (fun x16 M17 => ?_)
  refine pfX12_27 rfl rfl dX12_init_51 (fun M18 => ?_)
  refine x_aload_n dX12_init_54 rfl ?_
  refine x_bipush (v := 64) dX12_init_55 (by decide) ?_
  refine x_newa100 dX12_init_57 (fun x19 M20 => ?_)
  refine pfX12_30 rfl rfl dX12_init_59 (fun M21 => ?_)
  refine x_aload_n dX12_init_62 rfl ?_
  refine x_sipush (v := 192) dX12_init_63 (by decide) ?_
  refine x_newa100 dX12_init_66 (fun x22 M23 => ?_)
  refine pfX12_33 rfl rfl dX12_init_68 (fun M24 => ?_)
  refine x_aload_n dX12_init_71 rfl ?_
  refine x_bipush (v := 8) dX12_init_72 (by decide) ?_
  refine x_newa100 dX12_init_74 (fun x25 M26 => ?_)
  refine pfX12_36 rfl rfl dX12_init_76 (fun M27 => ?_)
  refine x_aload_n dX12_init_79 rfl ?_
  refine x_sipush (v := 768) dX12_init_80 (by decide) ?_
  refine x_newa104 dX12_init_83 (fun x28 M29 => ?_)
  refine pfX12_39 rfl rfl dX12_init_85 (fun M30 => ?_)
  refine x_aload_n dX12_init_88 rfl ?_
  refine x_sipush (v := 768) dX12_init_89 (by decide) ?_
  refine x_newa100 dX12_init_92 (fun x31 M32 => ?_)
  refine pfX12_42 rfl rfl dX12_init_94 (fun M33 => ?_)
  refine x_aload_n dX12_init_97 rfl ?_
  refine x_sipush (v := 768) dX12_init_98 (by decide) ?_
  refine x_newa100 dX12_init_101 (fun x34 M35 => ?_)
  refine pfX12_45 rfl rfl dX12_init_103 (fun M36 => ?_)
  refine x_aload_n dX12_init_106 rfl ?_
  refine x_sipush (v := 768) dX12_init_107 (by decide) ?_
  refine x_newa102 dX12_init_110 (fun x37 M38 => ?_)
  refine pfX12_48 rfl rfl dX12_init_112 (fun M39 => ?_)
  refine x_aload_n dX12_init_115 rfl ?_
  refine x_sipush (v := 768) dX12_init_116 (by decide) ?_
  refine x_newa100 dX12_init_119 (fun x40 M41 => ?_)
  refine pfX12_52 rfl rfl dX12_init_121 (fun M42 => ?_)
  refine x_aload_n dX12_init_124 rfl ?_
  refine x_sipush (v := 768) dX12_init_125 (by decide) ?_
  refine x_newa100 dX12_init_128 (fun x43 M44 => ?_)
  refine pfX12_55 rfl rfl dX12_init_130 (fun M45 => ?_)
  refine x_aload_n dX12_init_133 rfl ?_
  refine x_bipush (v := 8) dX12_init_134 (by decide) ?_
  refine x_newa100 dX12_init_136 (fun x46 M47 => ?_)
  refine pfX12_58 rfl rfl dX12_init_138 (fun M48 => ?_)
  refine x_aload_n dX12_init_141 rfl ?_
  refine x_sipush (v := 128) dX12_init_142 (by decide) ?_
  refine x_newa104 dX12_init_145 (fun x49 M50 => ?_)
  refine pfX12_61 rfl rfl dX12_init_147 (fun M51 => ?_)
  refine x_aload_n dX12_init_150 rfl ?_
  refine x_sipush (v := 128) dX12_init_151 (by decide) ?_
  refine x_newa100 dX12_init_154 (fun x52 M53 => ?_)
  refine pfX12_64 rfl rfl dX12_init_156 (fun M54 => ?_)
  refine x_aload_n dX12_init_159 rfl ?_
  refine x_sipush (v := 128) dX12_init_160 (by decide) ?_
  refine x_newa100 dX12_init_163 (fun x55 M56 => ?_)
  refine pfX12_67 rfl rfl dX12_init_165 (fun M57 => ?_)
  refine x_aload_n dX12_init_168 rfl ?_
  refine x_sipush (v := 128) dX12_init_169 (by decide) ?_
  refine x_newa100 dX12_init_172 (fun x58 M59 => ?_)
  refine pfX12_70 rfl rfl dX12_init_174 (fun M60 => ?_)
  refine x_aload_n dX12_init_177 rfl ?_
  refine x_sipush (v := 128) dX12_init_178 (by decide) ?_
  refine x_newa102 dX12_init_181 (fun x61 M62 => ?_)
  refine pfX12_73 rfl rfl dX12_init_183 (fun M63 => ?_)
  refine x_aload_n dX12_init_186 rfl ?_
  refine x_sipush (v := 128) dX12_init_187 (by decide) ?_
  refine x_newa100 dX12_init_190 (fun x64 M65 => ?_)
  refine pfX12_76 rfl rfl dX12_init_192 (fun M66 => ?_)
  refine x_aload_n dX12_init_195 rfl ?_
  refine x_sipush (v := 128) dX12_init_196 (by decide) ?_
  refine x_newa100 dX12_init_199 (fun x67 M68 => ?_)
  refine pfX12_79 rfl rfl dX12_init_201 (fun M69 => ?_)
  refine x_aload_n dX12_init_204 rfl ?_
  refine x_bipush (v := 8) dX12_init_205 (by decide) ?_
  refine x_newa100 dX12_init_207 (fun x70 M71 => ?_)
  refine pfX12_82 rfl rfl dX12_init_209 (fun M72 => ?_)
  refine x_aload_n dX12_init_212 rfl ?_
  refine x_bipush (v := 48) dX12_init_213 (by decide) ?_
  refine x_newa104 dX12_init_215 (fun x73 M74 => ?_)
  refine pfX12_85 rfl rfl dX12_init_217 (fun M75 => ?_)
  refine x_aload_n dX12_init_220 rfl ?_
  refine x_bipush (v := 48) dX12_init_221 (by decide) ?_
  refine x_newa100 dX12_init_223 (fun x76 M77 => ?_)
  refine pfX12_88 rfl rfl dX12_init_225 (fun M78 => ?_)
  refine x_aload_n dX12_init_228 rfl ?_
  refine x_bipush (v := 48) dX12_init_229 (by decide) ?_
  refine x_newa100 dX12_init_231 (fun x79 M80 => ?_)
  refine pfX12_91 rfl rfl dX12_init_233 (fun M81 => ?_)
  refine x_aload_n dX12_init_236 rfl ?_
  refine x_bipush (v := 8) dX12_init_237 (by decide) ?_
  refine x_newa100 dX12_init_239 (fun x82 M83 => ?_)
  refine pfX12_94 rfl rfl dX12_init_241 (fun M84 => ?_)
  refine x_aload_n dX12_init_244 rfl ?_
  refine x_sipush (v := 8000) dX12_init_245 (by decide) ?_
  refine x_newa101 dX12_init_248 (fun x85 M86 => ?_)
  refine pfX12_97 rfl rfl dX12_init_250 (fun M87 => ?_)
  refine x_aload_n dX12_init_253 rfl ?_
  refine x_sipush (v := 8000) dX12_init_254 (by decide) ?_
  refine x_newa100 dX12_init_257 (fun x88 M89 => ?_)
  refine pfX12_100 rfl rfl dX12_init_259 (fun M90 => ?_)
  refine x_aload_n dX12_init_262 rfl ?_
  refine x_sipush (v := 8000) dX12_init_263 (by decide) ?_
  refine x_newa101 dX12_init_266 (fun x91 M92 => ?_)
  refine pfX12_103 rfl rfl dX12_init_268 (fun M93 => ?_)
  refine x_aload_n dX12_init_271 rfl ?_
  refine x_bipush (v := 8) dX12_init_272 (by decide) ?_
  refine x_newa100 dX12_init_274 (fun x94 M95 => ?_)
  refine pfX12_106 rfl rfl dX12_init_276 (fun M96 => ?_)
  refine x_aload_n dX12_init_279 rfl ?_
  refine x_sipush (v := 8000) dX12_init_280 (by decide) ?_
  refine x_newa103 dX12_init_283 (fun x97 M98 => ?_)
  refine pfX12_109 rfl rfl dX12_init_285 (fun M99 => ?_)
  refine x_aload_n dX12_init_288 rfl ?_
  refine x_bipush (v := 28) dX12_init_289 (by decide) ?_
  refine x_newa104 dX12_init_291 (fun x100 M101 => ?_)
  refine x_dup dX12_init_293 (xc1_r _) ?_
  refine x_iconst (v := 0) dX12_init_294 (by decide) ?_
  refine x_ldcS (i := 2) rfl (by decide) dX12_init_295 ?_
  refine cmX12_115 rfl hs (Nat.le_of_ble_eq_true rfl) dX12_init_297 (fun x103 M102 => ?_)
  refine x_last dX12_init_300 (fun M104 => ?_)
  refine x_dup dX12_init_301 (xc1_r _) ?_
  refine x_iconst (v := 1) dX12_init_302 (by decide) ?_
  refine x_ldcS (i := 3) rfl (by decide) dX12_init_303 ?_
  refine cmX12_115 rfl hs (Nat.le_of_ble_eq_true rfl) dX12_init_305 (fun x106 M105 => ?_)
  refine x_last dX12_init_308 (fun M107 => ?_)
  refine x_dup dX12_init_309 (xc1_r _) ?_
  refine x_iconst (v := 2) dX12_init_310 (by decide) ?_
  refine x_ldcS (i := 4) rfl (by decide) dX12_init_311 ?_
  refine cmX12_115 rfl hs (Nat.le_of_ble_eq_true rfl) dX12_init_313 (fun x109 M108 => ?_)
  refine x_last dX12_init_316 (fun M110 => ?_)
  refine x_dup dX12_init_317 (xc1_r _) ?_
  refine x_iconst (v := 3) dX12_init_318 (by decide) ?_
  refine x_ldcS (i := 5) rfl (by decide) dX12_init_319 ?_
  refine cmX12_115 rfl hs (Nat.le_of_ble_eq_true rfl) dX12_init_321 (fun x112 M111 => ?_)
  refine x_last dX12_init_324 (fun M113 => ?_)
  refine x_dup dX12_init_325 (xc1_r _) ?_
  refine x_iconst (v := 4) dX12_init_326 (by decide) ?_
  refine x_ldcS (i := 6) rfl (by decide) dX12_init_327 ?_
  refine cmX12_115 rfl hs (Nat.le_of_ble_eq_true rfl) dX12_init_329 (fun x115 M114 => ?_)
  refine x_last dX12_init_332 (fun M116 => ?_)
  refine x_dup dX12_init_333 (xc1_r _) ?_
  refine x_iconst (v := 5) dX12_init_334 (by decide) ?_
  refine x_ldcS (i := 7) rfl (by decide) dX12_init_335 ?_
  refine cmX12_115 rfl hs (Nat.le_of_ble_eq_true rfl) dX12_init_337 (fun x118 M117 => ?_)
  refine x_last dX12_init_340 (fun M119 => ?_)
  refine x_dup dX12_init_341 (xc1_r _) ?_
  refine x_bipush (v := 6) dX12_init_342 (by decide) ?_
  refine x_ldcS (i := 8) rfl (by decide) dX12_init_344 ?_
  refine cmX12_115 rfl hs (Nat.le_of_ble_eq_true rfl) dX12_init_346 (fun x121 M120 => ?_)
  refine x_last dX12_init_349 (fun M122 => ?_)
  refine x_dup dX12_init_350 (xc1_r _) ?_
  refine x_bipush (v := 7) dX12_init_351 (by decide) ?_
  refine x_ldcS (i := 9) rfl (by decide) dX12_init_353 ?_
  refine cmX12_115 rfl hs (Nat.le_of_ble_eq_true rfl) dX12_init_355 (fun x124 M123 => ?_)
  refine x_last dX12_init_358 (fun M125 => ?_)
  refine x_dup dX12_init_359 (xc1_r _) ?_
  refine x_bipush (v := 8) dX12_init_360 (by decide) ?_
  refine x_ldcS (i := 10) rfl (by decide) dX12_init_362 ?_
  refine cmX12_115 rfl hs (Nat.le_of_ble_eq_true rfl) dX12_init_364 (fun x127 M126 => ?_)
  refine x_last dX12_init_367 (fun M128 => ?_)
  refine x_dup dX12_init_368 (xc1_r _) ?_
  refine x_bipush (v := 9) dX12_init_369 (by decide) ?_
  refine x_ldcS (i := 11) rfl (by decide) dX12_init_371 ?_
  refine cmX12_115 rfl hs (Nat.le_of_ble_eq_true rfl) dX12_init_373 (fun x130 M129 => ?_)
  refine x_last dX12_init_376 (fun M131 => ?_)
  refine x_dup dX12_init_377 (xc1_r _) ?_
  refine x_bipush (v := 10) dX12_init_378 (by decide) ?_
  refine x_ldcS (i := 12) rfl (by decide) dX12_init_380 ?_
  refine cmX12_115 rfl hs (Nat.le_of_ble_eq_true rfl) dX12_init_382 (fun x133 M132 => ?_)
  refine x_last dX12_init_385 (fun M134 => ?_)
  refine x_dup dX12_init_386 (xc1_r _) ?_
  refine x_bipush (v := 11) dX12_init_387 (by decide) ?_
  refine x_ldcS (i := 13) rfl (by decide) dX12_init_389 ?_
  refine cmX12_115 rfl hs (Nat.le_of_ble_eq_true rfl) dX12_init_391 (fun x136 M135 => ?_)
  refine x_last dX12_init_394 (fun M137 => ?_)
  refine x_dup dX12_init_395 (xc1_r _) ?_
  refine x_bipush (v := 12) dX12_init_396 (by decide) ?_
  refine x_ldcS (i := 14) rfl (by decide) dX12_init_398 ?_
  refine cmX12_115 rfl hs (Nat.le_of_ble_eq_true rfl) dX12_init_400 (fun x139 M138 => ?_)
  refine x_last dX12_init_403 (fun M140 => ?_)
  refine x_dup dX12_init_404 (xc1_r _) ?_
  refine x_bipush (v := 13) dX12_init_405 (by decide) ?_
  refine x_ldcS (i := 15) rfl (by decide) dX12_init_407 ?_
  refine cmX12_115 rfl hs (Nat.le_of_ble_eq_true rfl) dX12_init_409 (fun x142 M141 => ?_)
  refine x_last dX12_init_412 (fun M143 => ?_)
  refine x_dup dX12_init_413 (xc1_r _) ?_
  refine x_bipush (v := 14) dX12_init_414 (by decide) ?_
  refine x_ldcS (i := 16) rfl (by decide) dX12_init_416 ?_
  refine cmX12_115 rfl hs (Nat.le_of_ble_eq_true rfl) dX12_init_418 (fun x145 M144 => ?_)
  refine x_last dX12_init_421 (fun M146 => ?_)
  refine x_dup dX12_init_422 (xc1_r _) ?_
  refine x_bipush (v := 15) dX12_init_423 (by decide) ?_
  refine x_ldcS (i := 17) rfl (by decide) dX12_init_425 ?_
  refine cmX12_115 rfl hs (Nat.le_of_ble_eq_true rfl) dX12_init_427 (fun x148 M147 => ?_)
  refine x_last dX12_init_430 (fun M149 => ?_)
  refine x_dup dX12_init_431 (xc1_r _) ?_
  refine x_bipush (v := 16) dX12_init_432 (by decide) ?_
  refine x_ldcS (i := 18) rfl (by decide) dX12_init_434 ?_
  refine cmX12_115 rfl hs (Nat.le_of_ble_eq_true rfl) dX12_init_436 (fun x151 M150 => ?_)
  refine x_last dX12_init_439 (fun M152 => ?_)
  refine x_dup dX12_init_440 (xc1_r _) ?_
  refine x_bipush (v := 17) dX12_init_441 (by decide) ?_
  refine x_ldcS (i := 19) rfl (by decide) dX12_init_443 ?_
  refine cmX12_115 rfl hs (Nat.le_of_ble_eq_true rfl) dX12_init_445 (fun x154 M153 => ?_)
  refine x_last dX12_init_448 (fun M155 => ?_)
  refine x_dup dX12_init_449 (xc1_r _) ?_
  refine x_bipush (v := 18) dX12_init_450 (by decide) ?_
  refine x_ldcS (i := 20) rfl (by decide) dX12_init_452 ?_
  refine cmX12_115 rfl hs (Nat.le_of_ble_eq_true rfl) dX12_init_454 (fun x157 M156 => ?_)
  refine x_last dX12_init_457 (fun M158 => ?_)
  refine x_dup dX12_init_458 (xc1_r _) ?_
  refine x_bipush (v := 19) dX12_init_459 (by decide) ?_
  refine x_ldcS (i := 21) rfl (by decide) dX12_init_461 ?_
  refine cmX12_115 rfl hs (Nat.le_of_ble_eq_true rfl) dX12_init_463 (fun x160 M159 => ?_)
  refine x_last dX12_init_466 (fun M161 => ?_)
  refine x_dup dX12_init_467 (xc1_r _) ?_
  refine x_bipush (v := 20) dX12_init_468 (by decide) ?_
  refine x_ldcS (i := 22) rfl (by decide) dX12_init_470 ?_
  refine cmX12_115 rfl hs (Nat.le_of_ble_eq_true rfl) dX12_init_472 (fun x163 M162 => ?_)
  refine x_last dX12_init_475 (fun M164 => ?_)
  refine x_dup dX12_init_476 (xc1_r _) ?_
  refine x_bipush (v := 21) dX12_init_477 (by decide) ?_
  refine x_ldcS (i := 23) rfl (by decide) dX12_init_479 ?_
  refine cmX12_115 rfl hs (Nat.le_of_ble_eq_true rfl) dX12_init_481 (fun x166 M165 => ?_)
  refine x_last dX12_init_484 (fun M167 => ?_)
  refine x_dup dX12_init_485 (xc1_r _) ?_
  refine x_bipush (v := 22) dX12_init_486 (by decide) ?_
  refine x_ldcS (i := 24) rfl (by decide) dX12_init_488 ?_
  refine cmX12_115 rfl hs (Nat.le_of_ble_eq_true rfl) dX12_init_490 (fun x169 M168 => ?_)
  refine x_last dX12_init_493 (fun M170 => ?_)
  refine x_dup dX12_init_494 (xc1_r _) ?_
  refine x_bipush (v := 23) dX12_init_495 (by decide) ?_
  refine x_ldcS (i := 25) rfl (by decide) dX12_init_497 ?_
  refine cmX12_115 rfl hs (Nat.le_of_ble_eq_true rfl) dX12_init_499 (fun x172 M171 => ?_)
  refine x_last dX12_init_502 (fun M173 => ?_)
  refine x_dup dX12_init_503 (xc1_r _) ?_
  refine x_bipush (v := 24) dX12_init_504 (by decide) ?_
  refine x_ldcS (i := 26) rfl (by decide) dX12_init_506 ?_
  refine cmX12_115 rfl hs (Nat.le_of_ble_eq_true rfl) dX12_init_508 (fun x175 M174 => ?_)
  refine x_last dX12_init_511 (fun M176 => ?_)
  refine x_dup dX12_init_512 (xc1_r _) ?_
  refine x_bipush (v := 25) dX12_init_513 (by decide) ?_
  refine x_ldcS (i := 27) rfl (by decide) dX12_init_515 ?_
  refine cmX12_115 rfl hs (Nat.le_of_ble_eq_true rfl) dX12_init_517 (fun x178 M177 => ?_)
  refine x_last dX12_init_520 (fun M179 => ?_)
  refine x_dup dX12_init_521 (xc1_r _) ?_
  refine x_bipush (v := 26) dX12_init_522 (by decide) ?_
  refine x_ldcS (i := 28) rfl (by decide) dX12_init_524 ?_
  refine cmX12_115 rfl hs (Nat.le_of_ble_eq_true rfl) dX12_init_526 (fun x181 M180 => ?_)
  refine x_last dX12_init_529 (fun M182 => ?_)
  refine x_dup dX12_init_530 (xc1_r _) ?_
  refine x_bipush (v := 27) dX12_init_531 (by decide) ?_
  refine x_ldcS (i := 29) rfl (by decide) dX12_init_533 ?_
  refine cmX12_115 rfl hs (Nat.le_of_ble_eq_true rfl) dX12_init_535 (fun x184 M183 => ?_)
  refine x_last dX12_init_538 (fun M185 => ?_)
  refine pfX12_173 rfl rfl dX12_init_539 (fun M186 => ?_)
  refine x_aload_n dX12_init_542 rfl ?_
  refine x_sipush (v := 4000) dX12_init_543 (by decide) ?_
  refine x_newa101 dX12_init_546 (fun x187 M188 => ?_)
  refine pfX12_176 rfl rfl dX12_init_548 (fun M189 => ?_)
  refine x_aload_n dX12_init_551 rfl ?_
  refine x_sipush (v := 4000) dX12_init_552 (by decide) ?_
  refine x_newa100 dX12_init_555 (fun x190 M191 => ?_)
  refine pfX12_179 rfl rfl dX12_init_557 (fun M192 => ?_)
  refine x_aload_n dX12_init_560 rfl ?_
  refine x_sipush (v := 4000) dX12_init_561 (by decide) ?_
  refine x_newa101 dX12_init_564 (fun x193 M194 => ?_)
  refine pfX12_182 rfl rfl dX12_init_566 (fun M195 => ?_)
  refine x_aload_n dX12_init_569 rfl ?_
  refine x_sipush (v := 4000) dX12_init_570 (by decide) ?_
  refine x_newa102 dX12_init_573 (fun x196 M197 => ?_)
  refine pfX12_185 rfl rfl dX12_init_575 (fun M198 => ?_)
  refine x_aload_n dX12_init_578 rfl ?_
  refine x_bipush (v := 11) dX12_init_579 (by decide) ?_
  refine x_newa104 dX12_init_581 (fun x199 M200 => ?_)
  refine pfX12_188 rfl rfl dX12_init_583 (fun M201 => ?_)
  refine x_aload_n dX12_init_586 rfl ?_
  refine x_sipush (v := 2000) dX12_init_587 (by decide) ?_
  refine x_newa100 dX12_init_590 (fun x202 M203 => ?_)
  refine pfX12_191 rfl rfl dX12_init_592 (fun M204 => ?_)
  refine x_aload_n dX12_init_595 rfl ?_
  refine x_sipush (v := 2000) dX12_init_596 (by decide) ?_
  refine x_newa100 dX12_init_599 (fun x205 M206 => ?_)
  refine pfX12_194 rfl rfl dX12_init_601 (fun M207 => ?_)
  refine x_aload_n dX12_init_604 rfl ?_
  refine x_sipush (v := 2000) dX12_init_605 (by decide) ?_
  refine x_newa104 dX12_init_608 (fun x208 M209 => ?_)
  refine pfX12_197 rfl rfl dX12_init_610 (fun M210 => ?_)
  refine x_aload_n dX12_init_613 rfl ?_
  refine x_sipush (v := 2000) dX12_init_614 (by decide) ?_
  refine x_newa100 dX12_init_617 (fun x211 M212 => ?_)
  refine pfX12_200 rfl rfl dX12_init_619 (fun M213 => ?_)
  refine x_aload_n dX12_init_622 rfl ?_
  refine x_sipush (v := 2000) dX12_init_623 (by decide) ?_
  refine x_newa104 dX12_init_626 (fun x214 M215 => ?_)
  refine pfX12_203 rfl rfl dX12_init_628 (fun M216 => ?_)
  refine x_aload_n dX12_init_631 rfl ?_
  refine x_sipush (v := 2000) dX12_init_632 (by decide) ?_
  refine x_newa100 dX12_init_635 (fun x217 M218 => ?_)
  refine pfX12_206 rfl rfl dX12_init_637 (fun M219 => ?_)
  refine x_aload_n dX12_init_640 rfl ?_
  refine x_sipush (v := 2000) dX12_init_641 (by decide) ?_
  refine x_newa100 dX12_init_644 (fun x220 M221 => ?_)
  refine pfX12_209 rfl rfl dX12_init_646 (fun M222 => ?_)
  refine x_aload_n dX12_init_649 rfl ?_
  refine x_sipush (v := 2000) dX12_init_650 (by decide) ?_
  refine x_newa100 dX12_init_653 (fun x223 M224 => ?_)
  refine pfX12_212 rfl rfl dX12_init_655 (fun M225 => ?_)
  refine x_aload_n dX12_init_658 rfl ?_
  refine x_bipush (v := 48) dX12_init_659 (by decide) ?_
  refine x_newa100 dX12_init_661 (fun x226 M227 => ?_)
  refine pfX12_215 rfl rfl dX12_init_663 (fun M228 => ?_)
  refine x_aload_n dX12_init_666 rfl ?_
  refine x_bipush (v := 8) dX12_init_667 (by decide) ?_
  refine x_newa100 dX12_init_669 (fun x229 M230 => ?_)
  refine pfX12_218 rfl rfl dX12_init_671 (fun M231 => ?_)
  refine x_aload_n dX12_init_674 rfl ?_
  refine x_bipush (v := 16) dX12_init_675 (by decide) ?_
  refine x_newa100 dX12_init_677 (fun x232 M233 => ?_)
  refine pfX12_221 rfl rfl dX12_init_679 (fun M234 => ?_)
  refine x_aload_n dX12_init_682 rfl ?_
  refine x_sipush (v := 192) dX12_init_683 (by decide) ?_
  refine x_newa100 dX12_init_686 (fun x235 M236 => ?_)
  refine pfX12_224 rfl rfl dX12_init_688 (fun M237 => ?_)
  refine x_aload_n dX12_init_691 rfl ?_
  refine x_sipush (v := 9600) dX12_init_692 (by decide) ?_
  refine x_newa100 dX12_init_695 (fun x238 M239 => ?_)
  refine pfX12_227 rfl rfl dX12_init_697 (fun M240 => ?_)
  refine x_aload_n dX12_init_700 rfl ?_
  refine x_sipush (v := 3000) dX12_init_701 (by decide) ?_
  refine x_newa100 dX12_init_704 (fun x241 M242 => ?_)
  refine pfX12_230 rfl rfl dX12_init_706 (fun M243 => ?_)
  refine x_aload_n dX12_init_709 rfl ?_
  refine x_bipush (v := 120) dX12_init_710 (by decide) ?_
  refine x_newa100 dX12_init_712 (fun x244 M245 => ?_)
  refine pfX12_233 rfl rfl dX12_init_714 (fun M246 => ?_)
  refine x_aload_n dX12_init_717 rfl ?_
  refine x_sipush (v := 300) dX12_init_718 (by decide) ?_
  refine x_newa100 dX12_init_721 (fun x247 M248 => ?_)
  refine pfX12_236 rfl rfl dX12_init_723 (fun M249 => ?_)
  refine x_aload_n dX12_init_726 rfl ?_
  refine x_sipush (v := 200) dX12_init_727 (by decide) ?_
  refine pfX12_239 rfl dX12_init_730 (fun M250 => ?_)
  refine x_aload_n dX12_init_733 rfl ?_
  refine x_iconst (v := 1) dX12_init_734 (by decide) ?_
  refine pfX12_243 rfl dX12_init_735 (fun M251 => ?_)
  refine x_aload_n dX12_init_738 rfl ?_
  refine x_iconst (v := -1) dX12_init_739 (by decide) ?_
  refine pfX12_246 rfl dX12_init_740 (fun M252 => ?_)
  refine x_aload_n dX12_init_743 rfl ?_
  refine x_sipush (v := 8000) dX12_init_744 (by decide) ?_
  refine x_newa100 dX12_init_747 (fun x253 M254 => ?_)
  refine pfX12_249 rfl rfl dX12_init_749 (fun M255 => ?_)
  refine x_aload_n dX12_init_752 rfl ?_
  refine x_sipush (v := 8000) dX12_init_753 (by decide) ?_
  refine x_newa100 dX12_init_756 (fun x256 M257 => ?_)
  refine pfX12_252 rfl rfl dX12_init_758 (fun M258 => ?_)
  refine x_aload_n dX12_init_761 rfl ?_
  refine x_sipush (v := 8000) dX12_init_762 (by decide) ?_
  refine x_newa100 dX12_init_765 (fun x259 M260 => ?_)
  refine pfX12_255 rfl rfl dX12_init_767 (fun M261 => ?_)
  refine x_aload_n dX12_init_770 rfl ?_
  refine x_sipush (v := 1001) dX12_init_771 (by decide) ?_
  refine x_newa100 dX12_init_774 (fun x262 M263 => ?_)
  refine pfX12_258 rfl rfl dX12_init_776 (fun M264 => ?_)
  refine x_aload_n dX12_init_779 rfl ?_
  refine x_sipush (v := 1001) dX12_init_780 (by decide) ?_
  refine x_newa100 dX12_init_783 (fun x265 M266 => ?_)
  refine pfX12_261 rfl rfl dX12_init_785 (fun M267 => ?_)
  refine x_aload_n dX12_init_788 rfl ?_
  refine x_bipush (v := 8) dX12_init_789 (by decide) ?_
  refine x_newa102 dX12_init_791 (fun x268 M269 => ?_)
  refine pfX12_264 rfl rfl dX12_init_793 (fun M270 => ?_)
  refine x_aload_n dX12_init_796 rfl ?_
  refine x_sipush (v := 128) dX12_init_797 (by decide) ?_
  refine x_newa100 dX12_init_800 (fun x271 M272 => ?_)
  refine pfX12_267 rfl rfl dX12_init_802 (fun M273 => ?_)
  refine x_aload_n dX12_init_805 rfl ?_
  refine x_sipush (v := 128) dX12_init_806 (by decide) ?_
  refine x_newa100 dX12_init_809 (fun x274 M275 => ?_)
  refine pfX12_270 rfl rfl dX12_init_811 (fun M276 => ?_)
  refine x_aload_n dX12_init_814 rfl ?_
  refine x_sipush (v := 128) dX12_init_815 (by decide) ?_
  refine x_newa100 dX12_init_818 (fun x277 M278 => ?_)
  refine pfX12_273 rfl rfl dX12_init_820 (fun M279 => ?_)
  refine x_aload_n dX12_init_823 rfl ?_
  refine x_sipush (v := 128) dX12_init_824 (by decide) ?_
  refine x_newa100 dX12_init_827 (fun x280 M281 => ?_)
  refine pfX12_276 rfl rfl dX12_init_829 (fun M282 => ?_)
  refine x_aload_n dX12_init_832 rfl ?_
  refine x_iconst (v := 4) dX12_init_833 (by decide) ?_
  refine x_newa100 dX12_init_834 (fun x283 M284 => ?_)
  refine pfX12_279 rfl rfl dX12_init_836 (fun M285 => ?_)
  refine x_aload_n dX12_init_839 rfl ?_
  refine x_bipush (v := 8) dX12_init_840 (by decide) ?_
  refine x_newa100 dX12_init_842 (fun x286 M287 => ?_)
  refine x_dup dX12_init_844 (xc1_r _) ?_
  refine x_iconst (v := 0) dX12_init_845 (by decide) ?_
  refine x_iconst (v := -1) dX12_init_846 (by decide) ?_
  refine x_iast dX12_init_847 (fun M288 => ?_)
  refine x_dup dX12_init_848 (xc1_r _) ?_
  refine x_iconst (v := 1) dX12_init_849 (by decide) ?_
  refine x_iconst (v := -1) dX12_init_850 (by decide) ?_
  refine x_iast dX12_init_851 (fun M289 => ?_)
  refine x_dup dX12_init_852 (xc1_r _) ?_
  refine x_iconst (v := 2) dX12_init_853 (by decide) ?_
  refine x_iconst (v := -1) dX12_init_854 (by decide) ?_
  refine x_iast dX12_init_855 (fun M290 => ?_)
  refine x_dup dX12_init_856 (xc1_r _) ?_
  refine x_iconst (v := 3) dX12_init_857 (by decide) ?_
  refine x_iconst (v := -1) dX12_init_858 (by decide) ?_
  refine x_iast dX12_init_859 (fun M291 => ?_)
  refine x_dup dX12_init_860 (xc1_r _) ?_
  refine x_iconst (v := 4) dX12_init_861 (by decide) ?_
  refine x_iconst (v := -1) dX12_init_862 (by decide) ?_
  refine x_iast dX12_init_863 (fun M292 => ?_)
  refine x_dup dX12_init_864 (xc1_r _) ?_
  refine x_iconst (v := 5) dX12_init_865 (by decide) ?_
  refine x_iconst (v := -1) dX12_init_866 (by decide) ?_
  refine x_iast dX12_init_867 (fun M293 => ?_)
  refine x_dup dX12_init_868 (xc1_r _) ?_
  refine x_bipush (v := 6) dX12_init_869 (by decide) ?_
  refine x_iconst (v := -1) dX12_init_871 (by decide) ?_
  refine x_iast dX12_init_872 (fun M294 => ?_)
  refine x_dup dX12_init_873 (xc1_r _) ?_
  refine x_bipush (v := 7) dX12_init_874 (by decide) ?_
  refine x_iconst (v := -1) dX12_init_876 (by decide) ?_
  refine x_iast dX12_init_877 (fun M295 => ?_)
  refine pfX12_282 rfl rfl dX12_init_878 (fun M296 => ?_)
  refine x_aload_n dX12_init_881 rfl ?_
  refine x_bipush (v := 8) dX12_init_882 (by decide) ?_
  refine x_newa100 dX12_init_884 (fun x297 M298 => ?_)
  refine pfX12_285 rfl rfl dX12_init_886 (fun M299 => ?_)
  refine x_aload_n dX12_init_889 rfl ?_
  refine x_bipush (v := 8) dX12_init_890 (by decide) ?_
  refine x_newa100 dX12_init_892 (fun x300 M301 => ?_)
  refine pfX12_288 rfl rfl dX12_init_894 (fun M302 => ?_)
  refine x_aload_n dX12_init_897 rfl ?_
  refine x_bipush (v := 8) dX12_init_898 (by decide) ?_
  refine x_newa100 dX12_init_900 (fun x303 M304 => ?_)
  refine pfX12_291 rfl rfl dX12_init_902 (fun M305 => ?_)
  refine x_aload_n dX12_init_905 rfl ?_
  refine x_bipush (v := 64) dX12_init_906 (by decide) ?_
  refine x_newa100 dX12_init_908 (fun x306 M307 => ?_)
  refine pfX12_294 rfl rfl dX12_init_910 (fun M308 => ?_)
  refine x_aload_n dX12_init_913 rfl ?_
  refine x_bipush (v := 64) dX12_init_914 (by decide) ?_
  refine x_newa100 dX12_init_916 (fun x309 M310 => ?_)
  refine pfX12_297 rfl rfl dX12_init_918 (fun M311 => ?_)
  refine x_aload_n dX12_init_921 rfl ?_
  refine x_bipush (v := 64) dX12_init_922 (by decide) ?_
  refine x_newa102 dX12_init_924 (fun x312 M313 => ?_)
  refine pfX12_300 rfl rfl dX12_init_926 (fun M314 => ?_)
  refine x_aload_n dX12_init_929 rfl ?_
  refine x_bipush (v := 64) dX12_init_930 (by decide) ?_
  refine x_newa100 dX12_init_932 (fun x315 M316 => ?_)
  refine pfX12_303 rfl rfl dX12_init_934 (fun M317 => ?_)
  refine x_aload_n dX12_init_937 rfl ?_
  refine x_bipush (v := 8) dX12_init_938 (by decide) ?_
  refine x_newa100 dX12_init_940 (fun x318 M319 => ?_)
  refine pfX12_306 rfl rfl dX12_init_942 (fun M320 => ?_)
  refine x_aload_n dX12_init_945 rfl ?_
  refine x_sipush (v := 400) dX12_init_946 (by decide) ?_
  refine x_newa100 dX12_init_949 (fun x321 M322 => ?_)
  refine pfX12_309 rfl rfl dX12_init_951 (fun M323 => ?_)
  refine x_aload_n dX12_init_954 rfl ?_
  refine x_sipush (v := 1600) dX12_init_955 (by decide) ?_
  refine x_newa100 dX12_init_958 (fun x324 M325 => ?_)
  refine pfX12_312 rfl rfl dX12_init_960 (fun M326 => ?_)
  refine x_aload_n dX12_init_963 rfl ?_
  refine x_bipush (v := 8) dX12_init_964 (by decide) ?_
  refine x_newa102 dX12_init_966 (fun x327 M328 => ?_)
  refine pfX12_315 rfl rfl dX12_init_968 (fun M329 => ?_)
  refine x_aload_n dX12_init_971 rfl ?_
  refine x_sipush (v := 8000) dX12_init_972 (by decide) ?_
  refine x_newa100 dX12_init_975 (fun x330 M331 => ?_)
  refine pfX12_318 rfl rfl dX12_init_977 (fun M332 => ?_)
  refine x_aload_n dX12_init_980 rfl ?_
  refine x_sipush (v := 1000) dX12_init_981 (by decide) ?_
  refine x_newa100 dX12_init_984 (fun x333 M334 => ?_)
  refine pfX12_321 rfl rfl dX12_init_986 (fun M335 => ?_)
  refine x_aload_n dX12_init_989 rfl ?_
  refine x_bipush (v := 8) dX12_init_990 (by decide) ?_
  refine x_newa100 dX12_init_992 (fun x336 M337 => ?_)
  refine pfX12_324 rfl rfl dX12_init_994 (fun M338 => ?_)
  refine x_aload_n dX12_init_997 rfl ?_
  refine x_bipush (v := 16) dX12_init_998 (by decide) ?_
  refine x_newa100 dX12_init_1000 (fun x339 M340 => ?_)
  refine pfX12_327 rfl rfl dX12_init_1002 (fun M341 => ?_)
  refine x_aload_n dX12_init_1005 rfl ?_
  refine x_bipush (v := 16) dX12_init_1006 (by decide) ?_
  refine x_newa100 dX12_init_1008 (fun x342 M343 => ?_)
  refine pfX12_330 rfl rfl dX12_init_1010 (fun M344 => ?_)
  refine x_aload_n dX12_init_1013 rfl ?_
  refine x_iconst (v := 4) dX12_init_1014 (by decide) ?_
  refine x_newa100 dX12_init_1015 (fun x345 M346 => ?_)
  refine pfX12_333 rfl rfl dX12_init_1017 (fun M347 => ?_)
  refine x_aload_n dX12_init_1020 rfl ?_
  refine x_iconst (v := 4) dX12_init_1021 (by decide) ?_
  refine x_newa100 dX12_init_1022 (fun x348 M349 => ?_)
  refine pfX12_336 rfl rfl dX12_init_1024 (fun M350 => ?_)
  refine x_aload_n dX12_init_1027 rfl ?_
  refine x_bipush (v := 8) dX12_init_1028 (by decide) ?_
  refine x_newa100 dX12_init_1030 (fun x351 M352 => ?_)
  refine pfX12_339 rfl rfl dX12_init_1032 (fun M353 => ?_)
  refine x_aload_n dX12_init_1035 rfl ?_
  refine x_bipush (v := 8) dX12_init_1036 (by decide) ?_
  refine x_newa100 dX12_init_1038 (fun x354 M355 => ?_)
  refine pfX12_342 rfl rfl dX12_init_1040 (fun M356 => ?_)
  refine x_aload_n dX12_init_1043 rfl ?_
  refine x_bipush (v := 64) dX12_init_1044 (by decide) ?_
  refine x_newa100 dX12_init_1046 (fun x357 M358 => ?_)
  refine pfX12_345 rfl rfl dX12_init_1048 (fun M359 => ?_)
  refine x_aload_n dX12_init_1051 rfl ?_
  refine x_bipush (v := 64) dX12_init_1052 (by decide) ?_
  refine x_newa100 dX12_init_1054 (fun x360 M361 => ?_)
  refine pfX12_348 rfl rfl dX12_init_1056 (fun M362 => ?_)
  refine x_aload_n dX12_init_1059 rfl ?_
  refine x_bipush (v := 64) dX12_init_1060 (by decide) ?_
  refine x_newa100 dX12_init_1062 (fun x363 M364 => ?_)
  refine pfX12_351 rfl rfl dX12_init_1064 (fun M365 => ?_)
  refine x_aload_n dX12_init_1067 rfl ?_
  refine x_bipush (v := 64) dX12_init_1068 (by decide) ?_
  refine x_newa100 dX12_init_1070 (fun x366 M367 => ?_)
  refine pfX12_354 rfl rfl dX12_init_1072 (fun M368 => ?_)
  refine x_aload_n dX12_init_1075 rfl ?_
  refine x_bipush (v := 64) dX12_init_1076 (by decide) ?_
  refine x_newa100 dX12_init_1078 (fun x369 M370 => ?_)
  refine pfX12_357 rfl rfl dX12_init_1080 (fun M371 => ?_)
  refine x_aload_n dX12_init_1083 rfl ?_
  refine x_bipush (v := 8) dX12_init_1084 (by decide) ?_
  refine x_newa100 dX12_init_1086 (fun x372 M373 => ?_)
  refine pfX12_360 rfl rfl dX12_init_1088 (fun M374 => ?_)
  refine x_aload_n dX12_init_1091 rfl ?_
  refine x_bipush (v := 9) dX12_init_1092 (by decide) ?_
  refine x_newa100 dX12_init_1094 (fun x375 M376 => ?_)
  refine pfX12_363 rfl rfl dX12_init_1096 (fun M377 => ?_)
  refine x_aload_n dX12_init_1099 rfl ?_
  refine x_bipush (v := 16) dX12_init_1100 (by decide) ?_
  refine x_newa100 dX12_init_1102 (fun x378 M379 => ?_)
  refine pfX12_366 rfl rfl dX12_init_1104 (fun M380 => ?_)
  refine x_aload_n dX12_init_1107 rfl ?_
  refine x_bipush (v := 16) dX12_init_1108 (by decide) ?_
  refine x_newa100 dX12_init_1110 (fun x381 M382 => ?_)
  refine pfX12_369 rfl rfl dX12_init_1112 (fun M383 => ?_)
  refine x_aload_n dX12_init_1115 rfl ?_
  refine x_bipush (v := 8) dX12_init_1116 (by decide) ?_
  refine x_newa100 dX12_init_1118 (fun x384 M385 => ?_)
  refine pfX12_372 rfl rfl dX12_init_1120 (fun M386 => ?_)
  refine x_aload_n dX12_init_1123 rfl ?_
  refine x_bipush (v := 8) dX12_init_1124 (by decide) ?_
  refine x_newa100 dX12_init_1126 (fun x387 M388 => ?_)
  refine pfX12_375 rfl rfl dX12_init_1128 (fun M389 => ?_)
  exact x_vret rfl dX12_init_1131
theorem s183 {l : Launch} {d : Nat} {rec : Nat → List Value → Mem → XA} (hS : Nonempty XS) (hs : XSnd l xmt rec d) : Snd1 l 183 (b183 rec) d := by
  intro as M r M' h0
  unfold b183 at h0
  obtain ⟨a0, l1, e1, h1⟩ := aR_inv h0
  obtain ⟨ez, h⟩ := aZ_inv h1
  subst ez
  subst e1
  exact xmet (M := M) (as := [va_rf a0]) (lo := [some (va_rf a0)]) 183 xq183 xm183 (by rw [xargs_rf, xargs_nil]; exact ⟨rfl, trivial⟩) (by rw [xargs_rf, xargs_nil]; exact Nat.le_of_ble_eq_true rfl) (fun S G K => x_weak (by exact ⟨rfl, trivial⟩) (k183 hs a0 M)) h hS
set_option maxRecDepth 100000 in
def c184 (rec : Nat → List Value → Mem → XA) (a0 : Int32) (a1 : Int32) (a2 : Int32) (M0 : Mem) : XA :=
  jn (fun (s1 : Int32) =>
    rtZ s1 M0) fun j15 =>
  jn (fun (s2 : Unit) =>
    j15 ((0 : Int32))) fun j14 =>
  if a0 < a1 then (
    j14 ()) else (
    if a2 < a0 then (
      j14 ()) else (
      j15 ((1 : Int32))))
def b184 (rec : Nat → List Value → Mem → XA) (as : List Value) (M0 : Mem) : XA := aI as fun a0 as => aI as fun a1 as => aI as fun a2 as => aZ as (c184 rec a0 a1 a2 M0)
set_option maxRecDepth 100000 in
set_option maxHeartbeats 4000000 in
theorem k184 {S : XS} {G : XG} {K : Nat × Nat} {l : Launch} {d : Nat} {rec : Nat → List Value → Mem → XA} (hs : XSnd l xmt rec d) (a0 : Int32) (a1 : Int32) (a2 : Int32) (M0 : Mem) : Xe S G K l (yX12_in, cX12_in, 3, some .boolean) d 0 [some (.int a0), some (.int a1), some (.int a2)] [] M0 (c184 rec a0 a1 a2 M0) := by
  unfold c184
  refine x_iload_n dX12_in_0 rfl ?_
  refine x_iload_n dX12_in_1 rfl ?_
  refine x_jn (σ := Int32) 15 (fun s1 => [none, none, none]) (fun s1 => [.int s1]) (fun s1 => M0) (fun s1 => ?_) (fun j15 hj15 => ?_)
  · exact x_zret rfl dX12_in_15
  refine x_jn (σ := Unit) 14 (fun s2 => [none, none, none]) (fun s2 => []) (fun s2 => M0) (fun s2 => ?_) (fun j14 hj14 => ?_)
  · refine x_iconst (v := 0) dX12_in_14 (by decide) ?_
    exact x_weak (by exact trivial) (hj15 ((0 : Int32)))
  refine x_icmp_lt (tgt := 14) dX12_in_2 (by decide) (fun _ => ?_) (fun _ => ?_)
  · exact x_weak (by exact trivial) (hj14 ())
  · refine x_iload_n dX12_in_5 rfl ?_
    refine x_iload_n dX12_in_6 rfl ?_
    refine x_icmp_gt (tgt := 14) dX12_in_7 (by decide) (fun _ => ?_) (fun _ => ?_)
    · exact x_weak (by exact trivial) (hj14 ())
    · refine x_iconst (v := 1) dX12_in_10 (by decide) ?_
      refine x_goto (tgt := 15) dX12_in_11 (by decide) ?_
      exact x_weak (by exact trivial) (hj15 ((1 : Int32)))
theorem s184 {l : Launch} {d : Nat} {rec : Nat → List Value → Mem → XA} (hS : Nonempty XS) (hs : XSnd l xmt rec d) : Snd1 l 184 (b184 rec) d := by
  intro as M r M' h0
  unfold b184 at h0
  obtain ⟨a0, l1, e1, h1⟩ := aI_inv h0
  obtain ⟨a1, l2, e2, h2⟩ := aI_inv h1
  obtain ⟨a2, l3, e3, h3⟩ := aI_inv h2
  obtain ⟨ez, h⟩ := aZ_inv h3
  subst ez
  subst e3
  subst e2
  subst e1
  exact xmet (M := M) (as := [.int a0, .int a1, .int a2]) (lo := [some (.int a0), some (.int a1), some (.int a2)]) 184 xq184 xm184 (by rw [xargs_i, xargs_i, xargs_i, xargs_nil]; exact ⟨rfl, ⟨rfl, ⟨rfl, trivial⟩⟩⟩) (by rw [xargs_i, xargs_i, xargs_i, xargs_nil]; exact Nat.le_of_ble_eq_true rfl) (fun S G K => x_weak (by exact ⟨rfl, ⟨rfl, ⟨rfl, trivial⟩⟩⟩) (k184 hs a0 a1 a2 M)) h hS
set_option maxRecDepth 100000 in
def c185_19 (rec : Nat → List Value → Mem → XA) (a0 : Option Nat) (a1 : Int32) (a2 : Int32) (a3 : Int32) (a4 : Int32) (a5 : Int32) (j106 : Mem → XA) : (Int32 × Mem) → ((Int32 × Mem) → XA) → XA := fun s6 j19 =>
  if ((20 : Int32)) ≤ s6.1 then (
    j106 s6.2) else (
    jn (fun (s7 : Int32) =>
      gtP (13, 157) s6.2 a0 0 fun x8 =>
      gtI (13, 157) s6.2 a0 1 fun x9 =>
      if ((4 : Int32)) = 0 then none else
      asI 101 s6.2 x8 (x9 + s6.1) (((s7 >>> ((((24 : Int32)) - (((8 : Int32)) * (xrem s6.1 ((4 : Int32))))) &&& 31)).toInt8.toInt32).toInt8.toInt32) fun M10 =>
      lt (s6.1 + (1 : Int32)) fun (x11 : Int32) =>
      j19 (x11, M10)) fun j72 =>
    if ((4 : Int32)) ≤ s6.1 then (
      if ((8 : Int32)) ≤ s6.1 then (
        if ((12 : Int32)) ≤ s6.1 then (
          if ((16 : Int32)) ≤ s6.1 then (
            j72 a5) else (
            j72 a4)) else (
          j72 a3)) else (
        j72 a2)) else (
      j72 a1))
set_option maxRecDepth 100000 in
def c185 (rec : Nat → List Value → Mem → XA) (a0 : Option Nat) (a1 : Int32) (a2 : Int32) (a3 : Int32) (a4 : Int32) (a5 : Int32) (M0 : Mem) : XA :=
  gtI (13, 157) M0 a0 1 fun x1 =>
  if (x1 + ((20 : Int32))) ≤ ((3000 : Int32)) then (
    jn (fun (s2 : Mem) =>
      gtI (13, 157) s2 a0 1 fun x3 =>
      ptI (13, 157) s2 a0 1 (x3 + ((20 : Int32))) fun M4 =>
      gtI (13, 157) M4 a0 1 fun x5 =>
      some (.int x5, M4)) fun j106 =>
    lp (c185_19 rec a0 a1 a2 a3 a4 a5 j106) 4294967296 ((0 : Int32), M0)) else (
    some (.int ((-3 : Int32)), M0))
def b185 (rec : Nat → List Value → Mem → XA) (as : List Value) (M0 : Mem) : XA := aR as fun a0 as => aI as fun a1 as => aI as fun a2 as => aI as fun a3 as => aI as fun a4 as => aI as fun a5 as => aZ as (c185 rec a0 a1 a2 a3 a4 a5 M0)
set_option maxRecDepth 100000 in
set_option maxHeartbeats 4000000 in
theorem k185 {S : XS} {G : XG} {K : Nat × Nat} {l : Launch} {d : Nat} {rec : Nat → List Value → Mem → XA} (hs : XSnd l xmt rec d) (a0 : Option Nat) (a1 : Int32) (a2 : Int32) (a3 : Int32) (a4 : Int32) (a5 : Int32) (M0 : Mem) : Xe S G K l (yX12_feed, cX12_feed, 8, some .int) d 0 [some (va_rf a0), some (.int a1), some (.int a2), some (.int a3), some (.int a4), some (.int a5), none, none] [] M0 (c185 rec a0 a1 a2 a3 a4 a5 M0) := by
  unfold c185
  refine x_aload_n dX12_feed_0 rfl ?_
  refine gfX12_378 rfl dX12_feed_1 (fun x1 => ?_)
  refine x_bipush (v := 20) dX12_feed_4 (by decide) ?_
  refine x_iadd dX12_feed_6 ?_
  refine x_sipush (v := 3000) dX12_feed_7 (by decide) ?_
  refine x_icmp_le (tgt := 16) dX12_feed_10 (by decide) (fun _ => ?_) (fun _ => ?_)
  · refine x_iconst (v := 0) dX12_feed_16 (by decide) ?_
    refine x_istore (lo' := [some (va_rf a0), some (.int a1), some (.int a2), some (.int a3), some (.int a4), some (.int a5), some (.int ((0 : Int32))), none]) dX12_feed_17 (by decide) rfl rfl ?_
    refine x_jn (σ := Mem) 106 (fun s2 => [some (va_rf a0), none, none, none, none, none, none, none]) (fun s2 => []) (fun s2 => s2) (fun s2 => ?_) (fun j106 hj106 => ?_)
    · refine x_aload_n dX12_feed_106 rfl ?_
      refine x_dup dX12_feed_107 (xc1_r _) ?_
      refine gfX12_378 rfl dX12_feed_108 (fun x3 => ?_)
      refine x_bipush (v := 20) dX12_feed_111 (by decide) ?_
      refine x_iadd dX12_feed_113 ?_
      refine pfX12_378 rfl dX12_feed_114 (fun M4 => ?_)
      refine x_aload_n dX12_feed_117 rfl ?_
      refine gfX12_378 rfl dX12_feed_118 (fun x5 => ?_)
      exact x_iret rfl dX12_feed_121
    refine x_weak (by exact ⟨rfl, ⟨rfl, ⟨rfl, ⟨rfl, ⟨rfl, ⟨rfl, ⟨rfl, trivial⟩⟩⟩⟩⟩⟩⟩) (x_lp (σ := Int32 × Mem) 19 (fun s6 => [some (va_rf a0), some (.int a1), some (.int a2), some (.int a3), some (.int a4), some (.int a5), some (.int s6.1), none]) (fun s6 => []) (fun s6 => s6.2) (fun s6 j19 hj19 => ?_) 4294967296 ((0 : Int32), M0))
    · refine x_iload dX12_feed_19 rfl ?_
      refine x_bipush (v := 20) dX12_feed_21 (by decide) ?_
      refine x_icmp_ge (tgt := 106) dX12_feed_23 (by decide) (fun _ => ?_) (fun _ => ?_)
      · exact x_weak (by exact ⟨rfl, trivial⟩) (hj106 s6.2)
      · refine x_iload dX12_feed_26 rfl ?_
        refine x_iconst (v := 4) dX12_feed_28 (by decide) ?_
        refine x_jn (σ := Int32) 72 (fun s7 => [some (va_rf a0), some (.int a1), some (.int a2), some (.int a3), some (.int a4), some (.int a5), some (.int s6.1), none]) (fun s7 => [.int s7]) (fun s7 => s6.2) (fun s7 => ?_) (fun j72 hj72 => ?_)
        · refine x_istore (lo' := [some (va_rf a0), some (.int a1), some (.int a2), some (.int a3), some (.int a4), some (.int a5), some (.int s6.1), some (.int s7)]) dX12_feed_72 (by decide) rfl rfl ?_
          refine x_aload_n dX12_feed_74 rfl ?_
          refine gfX12_7 rfl dX12_feed_75 (fun x8 => ?_)
          refine x_aload_n dX12_feed_78 rfl ?_
          refine gfX12_378 rfl dX12_feed_79 (fun x9 => ?_)
          refine x_iload dX12_feed_82 rfl ?_
          refine x_iadd dX12_feed_84 ?_
          refine x_iload dX12_feed_85 rfl ?_
          refine x_bipush (v := 24) dX12_feed_87 (by decide) ?_
          refine x_bipush (v := 8) dX12_feed_89 (by decide) ?_
          refine x_iload dX12_feed_91 rfl ?_
          refine x_iconst (v := 4) dX12_feed_93 (by decide) ?_
          refine x_irem dX12_feed_94 (fun _ => ?_)
          refine x_imul dX12_feed_95 ?_
          refine x_isub dX12_feed_96 ?_
          refine x_ishr dX12_feed_97 ?_
          refine x_i2b dX12_feed_98 ?_
          refine x_bast dX12_feed_99 (fun M10 => ?_)
          refine x_iincN (v := 1) (lo' := fun x11 => [some (va_rf a0), some (.int a1), some (.int a2), some (.int a3), some (.int a4), some (.int a5), some (.int x11), some (.int s7)]) (by decide) dX12_feed_100 rfl (by decide) rfl (fun _ => rfl) (fun x11 => ?_)
          refine x_goto (tgt := 19) dX12_feed_103 (by decide) ?_
          exact x_weak (by exact ⟨rfl, ⟨rfl, ⟨rfl, ⟨rfl, ⟨rfl, ⟨rfl, ⟨rfl, trivial⟩⟩⟩⟩⟩⟩⟩) (hj19 (x11, M10))
        refine x_icmp_ge (tgt := 36) dX12_feed_29 (by decide) (fun _ => ?_) (fun _ => ?_)
        · refine x_iload dX12_feed_36 rfl ?_
          refine x_bipush (v := 8) dX12_feed_38 (by decide) ?_
          refine x_icmp_ge (tgt := 47) dX12_feed_40 (by decide) (fun _ => ?_) (fun _ => ?_)
          · refine x_iload dX12_feed_47 rfl ?_
            refine x_bipush (v := 12) dX12_feed_49 (by decide) ?_
            refine x_icmp_ge (tgt := 58) dX12_feed_51 (by decide) (fun _ => ?_) (fun _ => ?_)
            · refine x_iload dX12_feed_58 rfl ?_
              refine x_bipush (v := 16) dX12_feed_60 (by decide) ?_
              refine x_icmp_ge (tgt := 70) dX12_feed_62 (by decide) (fun _ => ?_) (fun _ => ?_)
              · refine x_iload dX12_feed_70 rfl ?_
                exact x_weak (by exact ⟨rfl, ⟨rfl, ⟨rfl, ⟨rfl, ⟨rfl, ⟨rfl, ⟨rfl, trivial⟩⟩⟩⟩⟩⟩⟩) (hj72 a5)
              · refine x_iload dX12_feed_65 rfl ?_
                refine x_goto (tgt := 72) dX12_feed_67 (by decide) ?_
                exact x_weak (by exact ⟨rfl, ⟨rfl, ⟨rfl, ⟨rfl, ⟨rfl, ⟨rfl, ⟨rfl, trivial⟩⟩⟩⟩⟩⟩⟩) (hj72 a4)
            · refine x_iload_n dX12_feed_54 rfl ?_
              refine x_goto (tgt := 72) dX12_feed_55 (by decide) ?_
              exact x_weak (by exact ⟨rfl, ⟨rfl, ⟨rfl, ⟨rfl, ⟨rfl, ⟨rfl, ⟨rfl, trivial⟩⟩⟩⟩⟩⟩⟩) (hj72 a3)
          · refine x_iload_n dX12_feed_43 rfl ?_
            refine x_goto (tgt := 72) dX12_feed_44 (by decide) ?_
            exact x_weak (by exact ⟨rfl, ⟨rfl, ⟨rfl, ⟨rfl, ⟨rfl, ⟨rfl, ⟨rfl, trivial⟩⟩⟩⟩⟩⟩⟩) (hj72 a2)
        · refine x_iload_n dX12_feed_32 rfl ?_
          refine x_goto (tgt := 72) dX12_feed_33 (by decide) ?_
          exact x_weak (by exact ⟨rfl, ⟨rfl, ⟨rfl, ⟨rfl, ⟨rfl, ⟨rfl, ⟨rfl, trivial⟩⟩⟩⟩⟩⟩⟩) (hj72 a1)
  · refine x_bipush (v := -3) dX12_feed_13 (by decide) ?_
    exact x_iret rfl dX12_feed_15
theorem s185 {l : Launch} {d : Nat} {rec : Nat → List Value → Mem → XA} (hS : Nonempty XS) (hs : XSnd l xmt rec d) : Snd1 l 185 (b185 rec) d := by
  intro as M r M' h0
  unfold b185 at h0
  obtain ⟨a0, l1, e1, h1⟩ := aR_inv h0
  obtain ⟨a1, l2, e2, h2⟩ := aI_inv h1
  obtain ⟨a2, l3, e3, h3⟩ := aI_inv h2
  obtain ⟨a3, l4, e4, h4⟩ := aI_inv h3
  obtain ⟨a4, l5, e5, h5⟩ := aI_inv h4
  obtain ⟨a5, l6, e6, h6⟩ := aI_inv h5
  obtain ⟨ez, h⟩ := aZ_inv h6
  subst ez
  subst e6
  subst e5
  subst e4
  subst e3
  subst e2
  subst e1
  exact xmet (M := M) (as := [va_rf a0, .int a1, .int a2, .int a3, .int a4, .int a5]) (lo := [some (va_rf a0), some (.int a1), some (.int a2), some (.int a3), some (.int a4), some (.int a5)]) 185 xq185 xm185 (by rw [xargs_rf, xargs_i, xargs_i, xargs_i, xargs_i, xargs_i, xargs_nil]; exact ⟨rfl, ⟨rfl, ⟨rfl, ⟨rfl, ⟨rfl, ⟨rfl, trivial⟩⟩⟩⟩⟩⟩) (by rw [xargs_rf, xargs_i, xargs_i, xargs_i, xargs_i, xargs_i, xargs_nil]; exact Nat.le_of_ble_eq_true rfl) (fun S G K => x_weak (by exact ⟨rfl, ⟨rfl, ⟨rfl, ⟨rfl, ⟨rfl, ⟨rfl, trivial⟩⟩⟩⟩⟩⟩) (k185 hs a0 a1 a2 a3 a4 a5 M)) h hS
set_option maxRecDepth 100000 in
def c186 (rec : Nat → List Value → Mem → XA) (a0 : Option Nat) (a1 : Int32) (M0 : Mem) : XA :=
  gtI (13, 157) M0 a0 1 fun x1 =>
  cI (rec 184 [.int a1, .int ((0 : Int32)), .int x1] M0) fun x3 M2 =>
  if x3 = 0 then (
    some (.int ((-1 : Int32)), M2)) else (
    gtI (13, 157) M2 a0 1 fun x4 =>
    ptI (13, 157) M2 a0 1 (x4 - a1) fun M5 =>
    gtI (13, 157) M5 a0 1 fun x6 =>
    some (.int x6, M5))
def b186 (rec : Nat → List Value → Mem → XA) (as : List Value) (M0 : Mem) : XA := aR as fun a0 as => aI as fun a1 as => aZ as (c186 rec a0 a1 M0)
set_option maxRecDepth 100000 in
set_option maxHeartbeats 4000000 in
theorem k186 {S : XS} {G : XG} {K : Nat × Nat} {l : Launch} {d : Nat} {rec : Nat → List Value → Mem → XA} (hs : XSnd l xmt rec d) (a0 : Option Nat) (a1 : Int32) (M0 : Mem) : Xe S G K l (yX12_cut, cX12_cut, 2, some .int) d 0 [some (va_rf a0), some (.int a1)] [] M0 (c186 rec a0 a1 M0) := by
  unfold c186
  refine x_iload_n dX12_cut_0 rfl ?_
  refine x_iconst (v := 0) dX12_cut_1 (by decide) ?_
  refine x_aload_n dX12_cut_2 rfl ?_
  refine gfX12_378 rfl dX12_cut_3 (fun x1 => ?_)
  refine cmX12_381 rfl hs (Nat.le_of_ble_eq_true rfl) dX12_cut_6 (fun x3 M2 => ?_)
  refine x_if_ne (tgt := 14) dX12_cut_9 (by decide) (fun _ => ?_) (fun _ => ?_)
  · refine x_iconst (v := -1) dX12_cut_12 (by decide) ?_
    exact x_iret rfl dX12_cut_13
  · refine x_aload_n dX12_cut_14 rfl ?_
    refine x_dup dX12_cut_15 (xc1_r _) ?_
    refine gfX12_378 rfl dX12_cut_16 (fun x4 => ?_)
    refine x_iload_n dX12_cut_19 rfl ?_
    refine x_isub dX12_cut_20 ?_
    refine pfX12_378 rfl dX12_cut_21 (fun M5 => ?_)
    refine x_aload_n dX12_cut_24 rfl ?_
    refine gfX12_378 rfl dX12_cut_25 (fun x6 => ?_)
    exact x_iret rfl dX12_cut_28
theorem s186 {l : Launch} {d : Nat} {rec : Nat → List Value → Mem → XA} (hS : Nonempty XS) (hs : XSnd l xmt rec d) : Snd1 l 186 (b186 rec) d := by
  intro as M r M' h0
  unfold b186 at h0
  obtain ⟨a0, l1, e1, h1⟩ := aR_inv h0
  obtain ⟨a1, l2, e2, h2⟩ := aI_inv h1
  obtain ⟨ez, h⟩ := aZ_inv h2
  subst ez
  subst e2
  subst e1
  exact xmet (M := M) (as := [va_rf a0, .int a1]) (lo := [some (va_rf a0), some (.int a1)]) 186 xq186 xm186 (by rw [xargs_rf, xargs_i, xargs_nil]; exact ⟨rfl, ⟨rfl, trivial⟩⟩) (by rw [xargs_rf, xargs_i, xargs_nil]; exact Nat.le_of_ble_eq_true rfl) (fun S G K => x_weak (by exact ⟨rfl, ⟨rfl, trivial⟩⟩) (k186 hs a0 a1 M)) h hS
set_option maxRecDepth 100000 in
def c187_4 (rec : Nat → List Value → Mem → XA) (a0 : Option Nat) (j30 : Int64 × Mem → XA) : (Int64 × Int32 × Mem) → ((Int64 × Int32 × Mem) → XA) → XA := fun s2 j4 =>
  vS a0 <|
  cI (rec 320 [va_rf a0] s2.2.2) fun x4 M3 =>
  if x4 ≤ s2.2.1 then (
    j30 (s2.1, M3)) else (
    vS a0 <|
    cI (rec 321 [va_rf a0, .int s2.2.1] M3) fun x6 M5 =>
    lt ((s2.1 <<< (Int32.toInt64 ((8 : Int32)) &&& 63)) ||| x6.toInt64) fun (x7 : Int64) =>
    lt (s2.2.1 + (1 : Int32)) fun (x8 : Int32) =>
    j4 (x7, x8, M5))
set_option maxRecDepth 100000 in
def c187 (rec : Nat → List Value → Mem → XA) (a0 : Option Nat) (M0 : Mem) : XA :=
  jn (fun (s1 : Int64 × Mem) =>
    some (.long s1.1, s1.2)) fun j30 =>
  lp (c187_4 rec a0 j30) 4294967296 ((0 : Int64), (0 : Int32), M0)
def b187 (rec : Nat → List Value → Mem → XA) (as : List Value) (M0 : Mem) : XA := aR as fun a0 as => aZ as (c187 rec a0 M0)
set_option maxRecDepth 100000 in
set_option maxHeartbeats 4000000 in
theorem k187 {S : XS} {G : XG} {K : Nat × Nat} {l : Launch} {d : Nat} {rec : Nat → List Value → Mem → XA} (hs : XSnd l xmt rec d) (a0 : Option Nat) (M0 : Mem) : Xe S G K l (yX12_packed, cX12_packed, 4, some .long) d 0 [some (va_rf a0), none, none, none] [] M0 (c187 rec a0 M0) := by
  unfold c187
  refine x_lconst (v := 0) dX12_packed_0 (by decide) ?_
  refine x_lstore_n (lo' := [some (va_rf a0), some (.long ((0 : Int64))), none, none]) dX12_packed_1 (by decide) (xok_r rfl) rfl ?_
  refine x_iconst (v := 0) dX12_packed_2 (by decide) ?_
  refine x_istore_n (lo' := [some (va_rf a0), some (.long ((0 : Int64))), none, some (.int ((0 : Int32)))]) dX12_packed_3 (by decide) rfl rfl ?_
  refine x_jn (σ := Int64 × Mem) 30 (fun s1 => [none, some (.long s1.1), none, none]) (fun s1 => []) (fun s1 => s1.2) (fun s1 => ?_) (fun j30 hj30 => ?_)
  · refine x_lload_n dX12_packed_30 rfl ?_
    exact x_lret rfl dX12_packed_31
  refine x_weak (by exact ⟨rfl, ⟨rfl, ⟨rfl, trivial⟩⟩⟩) (x_lp (σ := Int64 × Int32 × Mem) 4 (fun s2 => [some (va_rf a0), some (.long s2.1), none, some (.int s2.2.1)]) (fun s2 => []) (fun s2 => s2.2.2) (fun s2 j4 hj4 => ?_) 4294967296 ((0 : Int64), (0 : Int32), M0))
  · refine x_iload_n dX12_packed_4 rfl ?_
    refine x_aload_n dX12_packed_5 rfl ?_
    refine cmX12_385 rfl hs (Nat.le_of_ble_eq_true rfl) dX12_packed_6 (fun x4 M3 => ?_)
    refine x_icmp_ge (tgt := 30) dX12_packed_9 (by decide) (fun _ => ?_) (fun _ => ?_)
    · exact x_weak (by exact ⟨rfl, trivial⟩) (hj30 (s2.1, M3))
    · refine x_lload_n dX12_packed_12 rfl ?_
      refine x_bipush (v := 8) dX12_packed_13 (by decide) ?_
      refine x_lshl dX12_packed_15 ?_
      refine x_aload_n dX12_packed_16 rfl ?_
      refine x_iload_n dX12_packed_17 rfl ?_
      refine cmX12_391 rfl hs (Nat.le_of_ble_eq_true rfl) dX12_packed_18 (fun x6 M5 => ?_)
      refine x_i2l dX12_packed_21 ?_
      refine x_lor dX12_packed_22 ?_
      refine x_ltL (fun x7 => ?_)
      refine x_lstore_n (lo' := [some (va_rf a0), some (.long x7), none, some (.int s2.2.1)]) dX12_packed_23 (by decide) (xok_r rfl) rfl ?_
      refine x_iincN (v := 1) (lo' := fun x8 => [some (va_rf a0), some (.long x7), none, some (.int x8)]) (by decide) dX12_packed_24 rfl (by decide) rfl (fun _ => rfl) (fun x8 => ?_)
      refine x_goto (tgt := 4) dX12_packed_27 (by decide) ?_
      exact x_weak (by exact ⟨rfl, ⟨rfl, ⟨rfl, trivial⟩⟩⟩) (hj4 (x7, x8, M5))
theorem s187 {l : Launch} {d : Nat} {rec : Nat → List Value → Mem → XA} (hS : Nonempty XS) (hs : XSnd l xmt rec d) : Snd1 l 187 (b187 rec) d := by
  intro as M r M' h0
  unfold b187 at h0
  obtain ⟨a0, l1, e1, h1⟩ := aR_inv h0
  obtain ⟨ez, h⟩ := aZ_inv h1
  subst ez
  subst e1
  exact xmet (M := M) (as := [va_rf a0]) (lo := [some (va_rf a0)]) 187 xq187 xm187 (by rw [xargs_rf, xargs_nil]; exact ⟨rfl, trivial⟩) (by rw [xargs_rf, xargs_nil]; exact Nat.le_of_ble_eq_true rfl) (fun S G K => x_weak (by exact ⟨rfl, trivial⟩) (k187 hs a0 M)) h hS
set_option maxRecDepth 100000 in
def c188 (rec : Nat → List Value → Mem → XA) (a0 : Int32) (M0 : Mem) : XA :=
  cI (rec 184 [.int a0, .int ((97 : Int32)), .int ((122 : Int32))] M0) fun x2 M1 =>
  rtZ x2 M1
def b188 (rec : Nat → List Value → Mem → XA) (as : List Value) (M0 : Mem) : XA := aI as fun a0 as => aZ as (c188 rec a0 M0)
set_option maxRecDepth 100000 in
set_option maxHeartbeats 4000000 in
theorem k188 {S : XS} {G : XG} {K : Nat × Nat} {l : Launch} {d : Nat} {rec : Nat → List Value → Mem → XA} (hs : XSnd l xmt rec d) (a0 : Int32) (M0 : Mem) : Xe S G K l (yX12_isLetter, cX12_isLetter, 1, some .boolean) d 0 [some (.int a0)] [] M0 (c188 rec a0 M0) := by
  unfold c188
  refine x_iload_n dX12_isLetter_0 rfl ?_
  refine x_bipush (v := 97) dX12_isLetter_1 (by decide) ?_
  refine x_bipush (v := 122) dX12_isLetter_3 (by decide) ?_
  refine cmX12_381 rfl hs (Nat.le_of_ble_eq_true rfl) dX12_isLetter_5 (fun x2 M1 => ?_)
  exact x_zret rfl dX12_isLetter_8
theorem s188 {l : Launch} {d : Nat} {rec : Nat → List Value → Mem → XA} (hS : Nonempty XS) (hs : XSnd l xmt rec d) : Snd1 l 188 (b188 rec) d := by
  intro as M r M' h0
  unfold b188 at h0
  obtain ⟨a0, l1, e1, h1⟩ := aI_inv h0
  obtain ⟨ez, h⟩ := aZ_inv h1
  subst ez
  subst e1
  exact xmet (M := M) (as := [.int a0]) (lo := [some (.int a0)]) 188 xq188 xm188 (by rw [xargs_i, xargs_nil]; exact ⟨rfl, trivial⟩) (by rw [xargs_i, xargs_nil]; exact Nat.le_of_ble_eq_true rfl) (fun S G K => x_weak (by exact ⟨rfl, trivial⟩) (k188 hs a0 M)) h hS
set_option maxRecDepth 100000 in
def c189 (rec : Nat → List Value → Mem → XA) (a0 : Int32) (M0 : Mem) : XA :=
  cI (rec 184 [.int a0, .int ((48 : Int32)), .int ((57 : Int32))] M0) fun x2 M1 =>
  rtZ x2 M1
def b189 (rec : Nat → List Value → Mem → XA) (as : List Value) (M0 : Mem) : XA := aI as fun a0 as => aZ as (c189 rec a0 M0)
set_option maxRecDepth 100000 in
set_option maxHeartbeats 4000000 in
theorem k189 {S : XS} {G : XG} {K : Nat × Nat} {l : Launch} {d : Nat} {rec : Nat → List Value → Mem → XA} (hs : XSnd l xmt rec d) (a0 : Int32) (M0 : Mem) : Xe S G K l (yX12_isDigit, cX12_isDigit, 1, some .boolean) d 0 [some (.int a0)] [] M0 (c189 rec a0 M0) := by
  unfold c189
  refine x_iload_n dX12_isDigit_0 rfl ?_
  refine x_bipush (v := 48) dX12_isDigit_1 (by decide) ?_
  refine x_bipush (v := 57) dX12_isDigit_3 (by decide) ?_
  refine cmX12_381 rfl hs (Nat.le_of_ble_eq_true rfl) dX12_isDigit_5 (fun x2 M1 => ?_)
  exact x_zret rfl dX12_isDigit_8
theorem s189 {l : Launch} {d : Nat} {rec : Nat → List Value → Mem → XA} (hS : Nonempty XS) (hs : XSnd l xmt rec d) : Snd1 l 189 (b189 rec) d := by
  intro as M r M' h0
  unfold b189 at h0
  obtain ⟨a0, l1, e1, h1⟩ := aI_inv h0
  obtain ⟨ez, h⟩ := aZ_inv h1
  subst ez
  subst e1
  exact xmet (M := M) (as := [.int a0]) (lo := [some (.int a0)]) 189 xq189 xm189 (by rw [xargs_i, xargs_nil]; exact ⟨rfl, trivial⟩) (by rw [xargs_i, xargs_nil]; exact Nat.le_of_ble_eq_true rfl) (fun S G K => x_weak (by exact ⟨rfl, trivial⟩) (k189 hs a0 M)) h hS
set_option maxRecDepth 100000 in
def c190 (rec : Nat → List Value → Mem → XA) (a0 : Option Nat) (a1 : Int32) (M0 : Mem) : XA :=
  gtI (13, 157) M0 a0 1 fun x1 =>
  jn (fun (s2 : Int32) =>
    some (.int s2, M0)) fun j18 =>
  if x1 ≤ a1 then (
    j18 ((0 : Int32))) else (
    gtP (13, 157) M0 a0 0 fun x3 =>
    alI 101 M0 x3 a1 fun x4 =>
    j18 x4)
def b190 (rec : Nat → List Value → Mem → XA) (as : List Value) (M0 : Mem) : XA := aR as fun a0 as => aI as fun a1 as => aZ as (c190 rec a0 a1 M0)
set_option maxRecDepth 100000 in
set_option maxHeartbeats 4000000 in
theorem k190 {S : XS} {G : XG} {K : Nat × Nat} {l : Launch} {d : Nat} {rec : Nat → List Value → Mem → XA} (hs : XSnd l xmt rec d) (a0 : Option Nat) (a1 : Int32) (M0 : Mem) : Xe S G K l (yX12_at, cX12_at, 2, some .int) d 0 [some (va_rf a0), some (.int a1)] [] M0 (c190 rec a0 a1 M0) := by
  unfold c190
  refine x_iload_n dX12_at_0 rfl ?_
  refine x_aload_n dX12_at_1 rfl ?_
  refine gfX12_378 rfl dX12_at_2 (fun x1 => ?_)
  refine x_jn (σ := Int32) 18 (fun s2 => [none, none]) (fun s2 => [.int s2]) (fun s2 => M0) (fun s2 => ?_) (fun j18 hj18 => ?_)
  · exact x_iret rfl dX12_at_18
  refine x_icmp_ge (tgt := 17) dX12_at_5 (by decide) (fun _ => ?_) (fun _ => ?_)
  · refine x_iconst (v := 0) dX12_at_17 (by decide) ?_
    exact x_weak (by exact trivial) (hj18 ((0 : Int32)))
  · refine x_aload_n dX12_at_8 rfl ?_
    refine gfX12_7 rfl dX12_at_9 (fun x3 => ?_)
    refine x_iload_n dX12_at_12 rfl ?_
    refine x_bald dX12_at_13 (fun x4 => ?_)
    refine x_goto (tgt := 18) dX12_at_14 (by decide) ?_
    exact x_weak (by exact trivial) (hj18 x4)
theorem s190 {l : Launch} {d : Nat} {rec : Nat → List Value → Mem → XA} (hS : Nonempty XS) (hs : XSnd l xmt rec d) : Snd1 l 190 (b190 rec) d := by
  intro as M r M' h0
  unfold b190 at h0
  obtain ⟨a0, l1, e1, h1⟩ := aR_inv h0
  obtain ⟨a1, l2, e2, h2⟩ := aI_inv h1
  obtain ⟨ez, h⟩ := aZ_inv h2
  subst ez
  subst e2
  subst e1
  exact xmet (M := M) (as := [va_rf a0, .int a1]) (lo := [some (va_rf a0), some (.int a1)]) 190 xq190 xm190 (by rw [xargs_rf, xargs_i, xargs_nil]; exact ⟨rfl, ⟨rfl, trivial⟩⟩) (by rw [xargs_rf, xargs_i, xargs_nil]; exact Nat.le_of_ble_eq_true rfl) (fun S G K => x_weak (by exact ⟨rfl, ⟨rfl, trivial⟩⟩) (k190 hs a0 a1 M)) h hS
set_option maxRecDepth 100000 in
def c191_274 (rec : Nat → List Value → Mem → XA) (a0 : Option Nat) (j345 : Mem → XA) : (Mem) → ((Mem) → XA) → XA := fun s42 j274 =>
  gtI (13, 157) s42 a0 38 fun x43 =>
  vC (13, 157) s42 a0 <|
  cI (rec 190 [va_rf a0, .int x43] s42) fun x45 M44 =>
  cI (rec 189 [.int x45] M44) fun x47 M46 =>
  if x47 = 0 then (
    j345 M46) else (
    gtI (13, 157) M46 a0 38 fun x48 =>
    gtI (13, 157) M46 a0 37 fun x49 =>
    jn (fun (s50 : Int32 × Mem) =>
      ptI (13, 157) s50.2 a0 40 s50.1 fun M51 =>
      gtI (13, 157) M51 a0 38 fun x52 =>
      ptI (13, 157) M51 a0 38 (x52 + ((1 : Int32))) fun M53 =>
      j274 M53) fun j329 =>
    if ((9 : Int32)) ≤ (x48 - x49) then (
      gtI (13, 157) M46 a0 40 fun x54 =>
      j329 (x54, M46)) else (
      gtI (13, 157) M46 a0 40 fun x55 =>
      gtI (13, 157) M46 a0 38 fun x56 =>
      vC (13, 157) M46 a0 <|
      cI (rec 190 [va_rf a0, .int x56] M46) fun x58 M57 =>
      j329 (((((10 : Int32)) * x55) + x58) - ((48 : Int32)), M57)))
set_option maxRecDepth 100000 in
def c191_206 (rec : Nat → List Value → Mem → XA) (a0 : Option Nat) (j259 : Mem → XA) : (Int32 × Mem) → ((Int32 × Mem) → XA) → XA := fun s66 j206 =>
  gtP (13, 157) s66.2 a0 35 fun x67 =>
  aln s66.2 x67 fun x68 =>
  if x68 ≤ s66.1 then (
    j259 s66.2) else (
    gtI (13, 157) s66.2 a0 36 fun x69 =>
    if x69 = ((1 : Int32)) then (
      gtP (13, 157) s66.2 a0 35 fun x70 =>
      alL s66.2 x70 s66.1 fun x71 =>
      gtL (13, 157) s66.2 a0 39 fun x72 =>
      jn (fun (s73 : Int32) =>
        ptI (13, 157) s66.2 a0 36 s73 fun M74 =>
        lt (s66.1 + (1 : Int32)) fun (x75 : Int32) =>
        j206 (x75, M74)) fun j250 =>
      if (lg_cmp x71 x72) = 0 then (
        j250 (((401 : Int32)) + s66.1)) else (
        gtI (13, 157) s66.2 a0 36 fun x76 =>
        j250 x76)) else (
      j259 s66.2))
set_option maxRecDepth 100000 in
def c191_119 (rec : Nat → List Value → Mem → XA) (a0 : Option Nat) (j181 : Mem → XA) : (Mem) → ((Mem) → XA) → XA := fun s77 j119 =>
  gtI (13, 157) s77 a0 38 fun x78 =>
  vC (13, 157) s77 a0 <|
  cI (rec 190 [va_rf a0, .int x78] s77) fun x80 M79 =>
  cI (rec 188 [.int x80] M79) fun x82 M81 =>
  jn (fun (s83 : Mem) =>
    gtL (13, 157) s83 a0 39 fun x84 =>
    gtI (13, 157) s83 a0 38 fun x85 =>
    vC (13, 157) s83 a0 <|
    cI (rec 190 [va_rf a0, .int x85] s83) fun x87 M86 =>
    ptL (13, 157) M86 a0 39 ((x84 <<< (Int32.toInt64 ((8 : Int32)) &&& 63)) ||| x87.toInt64) fun M88 =>
    gtI (13, 157) M88 a0 38 fun x89 =>
    ptI (13, 157) M88 a0 38 (x89 + ((1 : Int32))) fun M90 =>
    j119 M90) fun j147 =>
  if x82 = 0 then (
    gtI (13, 157) M81 a0 38 fun x91 =>
    vC (13, 157) M81 a0 <|
    cI (rec 190 [va_rf a0, .int x91] M81) fun x93 M92 =>
    cI (rec 189 [.int x93] M92) fun x95 M94 =>
    if x95 = 0 then (
      j181 M94) else (
      j147 M94)) else (
    j147 M81)
set_option maxRecDepth 100000 in
def c191_8 (rec : Nat → List Value → Mem → XA) (a0 : Option Nat) (j71 : Mem → XA) : (Mem) → ((Mem) → XA) → XA := fun s96 j8 =>
  gtI (13, 157) s96 a0 38 fun x97 =>
  gtI (13, 157) s96 a0 1 fun x98 =>
  if x98 ≤ x97 then (
    j71 s96) else (
    gtI (13, 157) s96 a0 38 fun x99 =>
    vC (13, 157) s96 a0 <|
    cI (rec 190 [va_rf a0, .int x99] s96) fun x101 M100 =>
    jn (fun (s102 : Mem) =>
      gtI (13, 157) s102 a0 38 fun x103 =>
      ptI (13, 157) s102 a0 38 (x103 + ((1 : Int32))) fun M104 =>
      j8 M104) fun j58 =>
    if x101 = ((10 : Int32)) then (
      j58 M100) else (
      gtI (13, 157) M100 a0 38 fun x105 =>
      vC (13, 157) M100 a0 <|
      cI (rec 190 [va_rf a0, .int x105] M100) fun x107 M106 =>
      if x107 = ((13 : Int32)) then (
        j58 M106) else (
        gtI (13, 157) M106 a0 38 fun x108 =>
        vC (13, 157) M106 a0 <|
        cI (rec 190 [va_rf a0, .int x108] M106) fun x110 M109 =>
        if x110 = ((32 : Int32)) then (
          j58 M109) else (
          j71 M109))))
set_option maxRecDepth 100000 in
def c191 (rec : Nat → List Value → Mem → XA) (a0 : Option Nat) (M0 : Mem) : XA :=
  gtI (13, 157) M0 a0 41 fun x1 =>
  if x1 = 0 then (
    jn (fun (s2 : Mem) =>
      gtI (13, 157) s2 a0 38 fun x3 =>
      ptI (13, 157) s2 a0 37 x3 fun M4 =>
      gtI (13, 157) M4 a0 37 fun x5 =>
      vC (13, 157) M4 a0 <|
      cI (rec 190 [va_rf a0, .int x5] M4) fun x7 M6 =>
      gtI (13, 157) M6 a0 37 fun x8 =>
      gtI (13, 157) M6 a0 1 fun x9 =>
      jn (fun (s10 : Mem) =>
        some (.null, s10)) fun j586 =>
      if x8 = x9 then (
        ptI (13, 157) M6 a0 36 ((0 : Int32)) fun M11 =>
        j586 M11) else (
        cI (rec 188 [.int x7] M6) fun x13 M12 =>
        if x13 = 0 then (
          cI (rec 189 [.int x7] M12) fun x15 M14 =>
          if x15 = 0 then (
            gtI (13, 157) M14 a0 38 fun x16 =>
            ptI (13, 157) M14 a0 38 (x16 + ((1 : Int32))) fun M17 =>
            gtI (13, 157) M17 a0 38 fun x18 =>
            vC (13, 157) M17 a0 <|
            cI (rec 190 [va_rf a0, .int x18] M17) fun x20 M19 =>
            jn (fun (s21 : Int32) =>
              ptI (13, 157) M19 a0 36 x7 fun M22 =>
              jn (fun (s23 : Unit) =>
                if x7 = ((123 : Int32)) then (
                  j586 M22) else (
                  if x7 = ((125 : Int32)) then (
                    j586 M22) else (
                    if x7 = ((40 : Int32)) then (
                      j586 M22) else (
                      if x7 = ((41 : Int32)) then (
                        j586 M22) else (
                        if x7 = ((91 : Int32)) then (
                          j586 M22) else (
                          if x7 = ((93 : Int32)) then (
                            j586 M22) else (
                            if x7 = ((44 : Int32)) then (
                              j586 M22) else (
                              if x7 = ((59 : Int32)) then (
                                j586 M22) else (
                                if x7 = ((46 : Int32)) then (
                                  j586 M22) else (
                                  if x7 = ((61 : Int32)) then (
                                    j586 M22) else (
                                    if x7 = ((43 : Int32)) then (
                                      j586 M22) else (
                                      if x7 = ((45 : Int32)) then (
                                        j586 M22) else (
                                        if x7 = ((42 : Int32)) then (
                                          j586 M22) else (
                                          if x7 = ((47 : Int32)) then (
                                            j586 M22) else (
                                            if x7 = ((37 : Int32)) then (
                                              j586 M22) else (
                                              if x7 = ((60 : Int32)) then (
                                                j586 M22) else (
                                                ptI (13, 157) M22 a0 36 ((-1 : Int32)) fun M24 =>
                                                j586 M24))))))))))))))))) fun j485 =>
              jn (fun (s25 : Unit) =>
                if s21 = 0 then (
                  j485 ()) else (
                  gtI (13, 157) M22 a0 38 fun x26 =>
                  ptI (13, 157) M22 a0 38 (x26 + ((1 : Int32))) fun M27 =>
                  jn (fun (s28 : Int32) =>
                    ptI (13, 157) M27 a0 36 s28 fun M29 =>
                    j586 M29) fun j479 =>
                  if x7 = ((60 : Int32)) then (
                    j479 ((300 : Int32))) else (
                    if x7 = ((61 : Int32)) then (
                      j479 ((301 : Int32))) else (
                      j479 ((302 : Int32)))))) fun j437 =>
              if x7 = ((60 : Int32)) then (
                j437 ()) else (
                if x7 = ((61 : Int32)) then (
                  j437 ()) else (
                  if x7 = ((33 : Int32)) then (
                    j437 ()) else (
                    j485 ())))) fun j413 =>
            if x20 = ((61 : Int32)) then (
              j413 ((1 : Int32))) else (
              j413 ((0 : Int32)))) else (
            ptI (13, 157) M14 a0 40 ((0 : Int32)) fun M30 =>
            jn (fun (s31 : Mem) =>
              gtI (13, 157) s31 a0 38 fun x32 =>
              gtI (13, 157) s31 a0 37 fun x33 =>
              jn (fun (s34 : Int32 × Mem) =>
                ptI (13, 157) s34.2 a0 36 s34.1 fun M35 =>
                j586 M35) fun j379 =>
              jn (fun (s36 : Mem) =>
                j379 ((-1 : Int32), s36)) fun j374 =>
              if ((9 : Int32)) < (x32 - x33) then (
                j374 s31) else (
                gtI (13, 157) s31 a0 38 fun x37 =>
                vC (13, 157) s31 a0 <|
                cI (rec 190 [va_rf a0, .int x37] s31) fun x39 M38 =>
                cI (rec 188 [.int x39] M38) fun x41 M40 =>
                if x41 = 0 then (
                  j379 ((2 : Int32), M40)) else (
                  j374 M40))) fun j345 =>
            lp (c191_274 rec a0 j345) 4294967296 M30)) else (
          ptL (13, 157) M12 a0 39 ((0 : Int64)) fun M59 =>
          jn (fun (s60 : Mem) =>
            gtI (13, 157) s60 a0 38 fun x61 =>
            gtI (13, 157) s60 a0 37 fun x62 =>
            jn (fun (s63 : Int32) =>
              ptI (13, 157) s60 a0 36 s63 fun M64 =>
              jn (fun (s65 : Mem) =>
                j586 s65) fun j259 =>
              lp (c191_206 rec a0 j259) 4294967296 ((0 : Int32), M64)) fun j201 =>
            if (x61 - x62) ≤ ((8 : Int32)) then (
              j201 ((1 : Int32))) else (
              j201 ((-1 : Int32)))) fun j181 =>
          lp (c191_119 rec a0 j181) 4294967296 M59))) fun j71 =>
    lp (c191_8 rec a0 j71) 4294967296 M0) else (
    some (.null, M0))
def b191 (rec : Nat → List Value → Mem → XA) (as : List Value) (M0 : Mem) : XA := aR as fun a0 as => aZ as (c191 rec a0 M0)
set_option maxRecDepth 100000 in
set_option maxHeartbeats 4000000 in
theorem k191 {S : XS} {G : XG} {K : Nat × Nat} {l : Launch} {d : Nat} {rec : Nat → List Value → Mem → XA} (hs : XSnd l xmt rec d) (a0 : Option Nat) (M0 : Mem) : Xe S G K l (yX12_next, cX12_next, 3, none) d 0 [some (va_rf a0), none, none] [] M0 (c191 rec a0 M0) := by
  unfold c191
  refine x_aload_n dX12_next_0 rfl ?_
  refine gfX12_395 rfl dX12_next_1 (fun x1 => ?_)
  refine x_if_eq (tgt := 8) dX12_next_4 (by decide) (fun _ => ?_) (fun _ => ?_)
  · refine x_jn (σ := Mem) 71 (fun s2 => [some (va_rf a0), none, none]) (fun s2 => []) (fun s2 => s2) (fun s2 => ?_) (fun j71 hj71 => ?_)
    · refine x_aload_n dX12_next_71 rfl ?_
      refine x_aload_n dX12_next_72 rfl ?_
      refine gfX12_398 rfl dX12_next_73 (fun x3 => ?_)
      refine pfX12_405 rfl dX12_next_76 (fun M4 => ?_)
      refine x_aload_n dX12_next_79 rfl ?_
      refine x_aload_n dX12_next_80 rfl ?_
      refine gfX12_405 rfl dX12_next_81 (fun x5 => ?_)
      refine cmX12_401 rfl hs (Nat.le_of_ble_eq_true rfl) dX12_next_84 (fun x7 M6 => ?_)
      refine x_istore_n (lo' := [some (va_rf a0), some (.int x7), none]) dX12_next_87 (by decide) (xok_r rfl) rfl ?_
      refine x_aload_n dX12_next_88 rfl ?_
      refine gfX12_405 rfl dX12_next_89 (fun x8 => ?_)
      refine x_aload_n dX12_next_92 rfl ?_
      refine gfX12_378 rfl dX12_next_93 (fun x9 => ?_)
      refine x_jn (σ := Mem) 586 (fun s10 => [none, none, none]) (fun s10 => []) (fun s10 => s10) (fun s10 => ?_) (fun j586 hj586 => ?_)
      · exact x_vret rfl dX12_next_586
      refine x_icmp_ne (tgt := 107) dX12_next_96 (by decide) (fun _ => ?_) (fun _ => ?_)
      · refine x_aload_n dX12_next_99 rfl ?_
        refine x_iconst (v := 0) dX12_next_100 (by decide) ?_
        refine pfX12_408 rfl dX12_next_101 (fun M11 => ?_)
        refine x_goto (tgt := 586) dX12_next_104 (by decide) ?_
        exact x_weak (by exact trivial) (hj586 M11)
      · refine x_iload_n dX12_next_107 rfl ?_
        refine cmX12_411 rfl hs (Nat.le_of_ble_eq_true rfl) dX12_next_108 (fun x13 M12 => ?_)
        refine x_if_eq (tgt := 262) dX12_next_111 (by decide) (fun _ => ?_) (fun _ => ?_)
        · refine x_iload_n dX12_next_262 rfl ?_
          refine cmX12_419 rfl hs (Nat.le_of_ble_eq_true rfl) dX12_next_263 (fun x15 M14 => ?_)
          refine x_if_eq (tgt := 385) dX12_next_266 (by decide) (fun _ => ?_) (fun _ => ?_)
          · refine x_aload_n dX12_next_385 rfl ?_
            refine x_dup dX12_next_386 (xc1_r _) ?_
            refine gfX12_398 rfl dX12_next_387 (fun x16 => ?_)
            refine x_iconst (v := 1) dX12_next_390 (by decide) ?_
            refine x_iadd dX12_next_391 ?_
            refine pfX12_398 rfl dX12_next_392 (fun M17 => ?_)
            refine x_aload_n dX12_next_395 rfl ?_
            refine x_aload_n dX12_next_396 rfl ?_
            refine gfX12_398 rfl dX12_next_397 (fun x18 => ?_)
            refine cmX12_401 rfl hs (Nat.le_of_ble_eq_true rfl) dX12_next_400 (fun x20 M19 => ?_)
            refine x_bipush (v := 61) dX12_next_403 (by decide) ?_
            refine x_jn (σ := Int32) 413 (fun s21 => [some (va_rf a0), some (.int x7), none]) (fun s21 => [.int s21]) (fun s21 => M19) (fun s21 => ?_) (fun j413 hj413 => ?_)
            · refine x_istore_n (lo' := [some (va_rf a0), some (.int x7), some (.int s21)]) dX12_next_413 (by decide) rfl rfl ?_
              refine x_aload_n dX12_next_414 rfl ?_
              refine x_iload_n dX12_next_415 rfl ?_
              refine pfX12_408 rfl dX12_next_416 (fun M22 => ?_)
              refine x_iload_n dX12_next_419 rfl ?_
              refine x_bipush (v := 60) dX12_next_420 (by decide) ?_
              refine x_jn (σ := Unit) 485 (fun s23 => [some (va_rf a0), some (.int x7), none]) (fun s23 => []) (fun s23 => M22) (fun s23 => ?_) (fun j485 hj485 => ?_)
              · refine x_iload_n dX12_next_485 rfl ?_
                refine x_bipush (v := 123) dX12_next_486 (by decide) ?_
                refine x_icmp_eq (tgt := 586) dX12_next_488 (by decide) (fun _ => ?_) (fun _ => ?_)
                · exact x_weak (by exact trivial) (hj586 M22)
                · refine x_iload_n dX12_next_491 rfl ?_
                  refine x_bipush (v := 125) dX12_next_492 (by decide) ?_
                  refine x_icmp_eq (tgt := 586) dX12_next_494 (by decide) (fun _ => ?_) (fun _ => ?_)
                  · exact x_weak (by exact trivial) (hj586 M22)
                  · refine x_iload_n dX12_next_497 rfl ?_
                    refine x_bipush (v := 40) dX12_next_498 (by decide) ?_
                    refine x_icmp_eq (tgt := 586) dX12_next_500 (by decide) (fun _ => ?_) (fun _ => ?_)
                    · exact x_weak (by exact trivial) (hj586 M22)
                    · refine x_iload_n dX12_next_503 rfl ?_
                      refine x_bipush (v := 41) dX12_next_504 (by decide) ?_
                      refine x_icmp_eq (tgt := 586) dX12_next_506 (by decide) (fun _ => ?_) (fun _ => ?_)
                      · exact x_weak (by exact trivial) (hj586 M22)
                      · refine x_iload_n dX12_next_509 rfl ?_
                        refine x_bipush (v := 91) dX12_next_510 (by decide) ?_
                        refine x_icmp_eq (tgt := 586) dX12_next_512 (by decide) (fun _ => ?_) (fun _ => ?_)
                        · exact x_weak (by exact trivial) (hj586 M22)
                        · refine x_iload_n dX12_next_515 rfl ?_
                          refine x_bipush (v := 93) dX12_next_516 (by decide) ?_
                          refine x_icmp_eq (tgt := 586) dX12_next_518 (by decide) (fun _ => ?_) (fun _ => ?_)
                          · exact x_weak (by exact trivial) (hj586 M22)
                          · refine x_iload_n dX12_next_521 rfl ?_
                            refine x_bipush (v := 44) dX12_next_522 (by decide) ?_
                            refine x_icmp_eq (tgt := 586) dX12_next_524 (by decide) (fun _ => ?_) (fun _ => ?_)
                            · exact x_weak (by exact trivial) (hj586 M22)
                            · refine x_iload_n dX12_next_527 rfl ?_
                              refine x_bipush (v := 59) dX12_next_528 (by decide) ?_
                              refine x_icmp_eq (tgt := 586) dX12_next_530 (by decide) (fun _ => ?_) (fun _ => ?_)
                              · exact x_weak (by exact trivial) (hj586 M22)
                              · refine x_iload_n dX12_next_533 rfl ?_
                                refine x_bipush (v := 46) dX12_next_534 (by decide) ?_
                                refine x_icmp_eq (tgt := 586) dX12_next_536 (by decide) (fun _ => ?_) (fun _ => ?_)
                                · exact x_weak (by exact trivial) (hj586 M22)
                                · refine x_iload_n dX12_next_539 rfl ?_
                                  refine x_bipush (v := 61) dX12_next_540 (by decide) ?_
                                  refine x_icmp_eq (tgt := 586) dX12_next_542 (by decide) (fun _ => ?_) (fun _ => ?_)
                                  · exact x_weak (by exact trivial) (hj586 M22)
                                  · refine x_iload_n dX12_next_545 rfl ?_
                                    refine x_bipush (v := 43) dX12_next_546 (by decide) ?_
                                    refine x_icmp_eq (tgt := 586) dX12_next_548 (by decide) (fun _ => ?_) (fun _ => ?_)
                                    · exact x_weak (by exact trivial) (hj586 M22)
                                    · refine x_iload_n dX12_next_551 rfl ?_
                                      refine x_bipush (v := 45) dX12_next_552 (by decide) ?_
                                      refine x_icmp_eq (tgt := 586) dX12_next_554 (by decide) (fun _ => ?_) (fun _ => ?_)
                                      · exact x_weak (by exact trivial) (hj586 M22)
                                      · refine x_iload_n dX12_next_557 rfl ?_
                                        refine x_bipush (v := 42) dX12_next_558 (by decide) ?_
                                        refine x_icmp_eq (tgt := 586) dX12_next_560 (by decide) (fun _ => ?_) (fun _ => ?_)
                                        · exact x_weak (by exact trivial) (hj586 M22)
                                        · refine x_iload_n dX12_next_563 rfl ?_
                                          refine x_bipush (v := 47) dX12_next_564 (by decide) ?_
                                          refine x_icmp_eq (tgt := 586) dX12_next_566 (by decide) (fun _ => ?_) (fun _ => ?_)
                                          · exact x_weak (by exact trivial) (hj586 M22)
                                          · refine x_iload_n dX12_next_569 rfl ?_
                                            refine x_bipush (v := 37) dX12_next_570 (by decide) ?_
                                            refine x_icmp_eq (tgt := 586) dX12_next_572 (by decide) (fun _ => ?_) (fun _ => ?_)
                                            · exact x_weak (by exact trivial) (hj586 M22)
                                            · refine x_iload_n dX12_next_575 rfl ?_
                                              refine x_bipush (v := 60) dX12_next_576 (by decide) ?_
                                              refine x_icmp_eq (tgt := 586) dX12_next_578 (by decide) (fun _ => ?_) (fun _ => ?_)
                                              · exact x_weak (by exact trivial) (hj586 M22)
                                              · refine x_aload_n dX12_next_581 rfl ?_
                                                refine x_iconst (v := -1) dX12_next_582 (by decide) ?_
                                                refine pfX12_408 rfl dX12_next_583 (fun M24 => ?_)
                                                exact x_weak (by exact trivial) (hj586 M24)
              refine x_jn (σ := Unit) 437 (fun s25 => [some (va_rf a0), some (.int x7), some (.int s21)]) (fun s25 => []) (fun s25 => M22) (fun s25 => ?_) (fun j437 hj437 => ?_)
              · refine x_iload_n dX12_next_437 rfl ?_
                refine x_if_eq (tgt := 485) dX12_next_438 (by decide) (fun _ => ?_) (fun _ => ?_)
                · exact x_weak (by exact ⟨rfl, ⟨rfl, trivial⟩⟩) (hj485 ())
                · refine x_aload_n dX12_next_441 rfl ?_
                  refine x_dup dX12_next_442 (xc1_r _) ?_
                  refine gfX12_398 rfl dX12_next_443 (fun x26 => ?_)
                  refine x_iconst (v := 1) dX12_next_446 (by decide) ?_
                  refine x_iadd dX12_next_447 ?_
                  refine pfX12_398 rfl dX12_next_448 (fun M27 => ?_)
                  refine x_aload_n dX12_next_451 rfl ?_
                  refine x_iload_n dX12_next_452 rfl ?_
                  refine x_bipush (v := 60) dX12_next_453 (by decide) ?_
                  refine x_jn (σ := Int32) 479 (fun s28 => [none, none, none]) (fun s28 => [.int s28, va_rf a0]) (fun s28 => M27) (fun s28 => ?_) (fun j479 hj479 => ?_)
                  · refine pfX12_408 rfl dX12_next_479 (fun M29 => ?_)
                    refine x_goto (tgt := 586) dX12_next_482 (by decide) ?_
                    exact x_weak (by exact trivial) (hj586 M29)
                  refine x_icmp_ne (tgt := 464) dX12_next_455 (by decide) (fun _ => ?_) (fun _ => ?_)
                  · refine x_sipush (v := 300) dX12_next_458 (by decide) ?_
                    refine x_goto (tgt := 479) dX12_next_461 (by decide) ?_
                    exact x_weak (by exact trivial) (hj479 ((300 : Int32)))
                  · refine x_iload_n dX12_next_464 rfl ?_
                    refine x_bipush (v := 61) dX12_next_465 (by decide) ?_
                    refine x_icmp_ne (tgt := 476) dX12_next_467 (by decide) (fun _ => ?_) (fun _ => ?_)
                    · refine x_sipush (v := 301) dX12_next_470 (by decide) ?_
                      refine x_goto (tgt := 479) dX12_next_473 (by decide) ?_
                      exact x_weak (by exact trivial) (hj479 ((301 : Int32)))
                    · refine x_sipush (v := 302) dX12_next_476 (by decide) ?_
                      exact x_weak (by exact trivial) (hj479 ((302 : Int32)))
              refine x_icmp_eq (tgt := 437) dX12_next_422 (by decide) (fun _ => ?_) (fun _ => ?_)
              · exact x_weak (by exact ⟨rfl, ⟨rfl, ⟨rfl, trivial⟩⟩⟩) (hj437 ())
              · refine x_iload_n dX12_next_425 rfl ?_
                refine x_bipush (v := 61) dX12_next_426 (by decide) ?_
                refine x_icmp_eq (tgt := 437) dX12_next_428 (by decide) (fun _ => ?_) (fun _ => ?_)
                · exact x_weak (by exact ⟨rfl, ⟨rfl, ⟨rfl, trivial⟩⟩⟩) (hj437 ())
                · refine x_iload_n dX12_next_431 rfl ?_
                  refine x_bipush (v := 33) dX12_next_432 (by decide) ?_
                  refine x_icmp_ne (tgt := 485) dX12_next_434 (by decide) (fun _ => ?_) (fun _ => ?_)
                  · exact x_weak (by exact ⟨rfl, ⟨rfl, ⟨rfl, trivial⟩⟩⟩) (hj437 ())
                  · exact x_weak (by exact ⟨rfl, ⟨rfl, trivial⟩⟩) (hj485 ())
            refine x_icmp_ne (tgt := 412) dX12_next_405 (by decide) (fun _ => ?_) (fun _ => ?_)
            · refine x_iconst (v := 1) dX12_next_408 (by decide) ?_
              refine x_goto (tgt := 413) dX12_next_409 (by decide) ?_
              exact x_weak (by exact ⟨rfl, ⟨rfl, trivial⟩⟩) (hj413 ((1 : Int32)))
            · refine x_iconst (v := 0) dX12_next_412 (by decide) ?_
              exact x_weak (by exact ⟨rfl, ⟨rfl, trivial⟩⟩) (hj413 ((0 : Int32)))
          · refine x_aload_n dX12_next_269 rfl ?_
            refine x_iconst (v := 0) dX12_next_270 (by decide) ?_
            refine pfX12_422 rfl dX12_next_271 (fun M30 => ?_)
            refine x_jn (σ := Mem) 345 (fun s31 => [some (va_rf a0), none, none]) (fun s31 => []) (fun s31 => s31) (fun s31 => ?_) (fun j345 hj345 => ?_)
            · refine x_aload_n dX12_next_345 rfl ?_
              refine x_aload_n dX12_next_346 rfl ?_
              refine gfX12_398 rfl dX12_next_347 (fun x32 => ?_)
              refine x_aload_n dX12_next_350 rfl ?_
              refine gfX12_405 rfl dX12_next_351 (fun x33 => ?_)
              refine x_isub dX12_next_354 ?_
              refine x_bipush (v := 9) dX12_next_355 (by decide) ?_
              refine x_jn (σ := Int32 × Mem) 379 (fun s34 => [none, none, none]) (fun s34 => [.int s34.1, va_rf a0]) (fun s34 => s34.2) (fun s34 => ?_) (fun j379 hj379 => ?_)
              · refine pfX12_408 rfl dX12_next_379 (fun M35 => ?_)
                refine x_goto (tgt := 586) dX12_next_382 (by decide) ?_
                exact x_weak (by exact trivial) (hj586 M35)
              refine x_jn (σ := Mem) 374 (fun s36 => [none, none, none]) (fun s36 => [va_rf a0]) (fun s36 => s36) (fun s36 => ?_) (fun j374 hj374 => ?_)
              · refine x_iconst (v := -1) dX12_next_374 (by decide) ?_
                refine x_goto (tgt := 379) dX12_next_375 (by decide) ?_
                exact x_weak (by exact trivial) (hj379 ((-1 : Int32), s36))
              refine x_icmp_gt (tgt := 374) dX12_next_357 (by decide) (fun _ => ?_) (fun _ => ?_)
              · exact x_weak (by exact trivial) (hj374 s31)
              · refine x_aload_n dX12_next_360 rfl ?_
                refine x_aload_n dX12_next_361 rfl ?_
                refine gfX12_398 rfl dX12_next_362 (fun x37 => ?_)
                refine cmX12_401 rfl hs (Nat.le_of_ble_eq_true rfl) dX12_next_365 (fun x39 M38 => ?_)
                refine cmX12_411 rfl hs (Nat.le_of_ble_eq_true rfl) dX12_next_368 (fun x41 M40 => ?_)
                refine x_if_eq (tgt := 378) dX12_next_371 (by decide) (fun _ => ?_) (fun _ => ?_)
                · refine x_iconst (v := 2) dX12_next_378 (by decide) ?_
                  exact x_weak (by exact trivial) (hj379 ((2 : Int32), M40))
                · exact x_weak (by exact trivial) (hj374 M40)
            refine x_weak (by exact ⟨rfl, trivial⟩) (x_lp (σ := Mem) 274 (fun s42 => [some (va_rf a0), none, none]) (fun s42 => []) (fun s42 => s42) (fun s42 j274 hj274 => ?_) 4294967296 M30)
            · refine x_aload_n dX12_next_274 rfl ?_
              refine x_aload_n dX12_next_275 rfl ?_
              refine gfX12_398 rfl dX12_next_276 (fun x43 => ?_)
              refine cmX12_401 rfl hs (Nat.le_of_ble_eq_true rfl) dX12_next_279 (fun x45 M44 => ?_)
              refine cmX12_419 rfl hs (Nat.le_of_ble_eq_true rfl) dX12_next_282 (fun x47 M46 => ?_)
              refine x_if_eq (tgt := 345) dX12_next_285 (by decide) (fun _ => ?_) (fun _ => ?_)
              · exact x_weak (by exact ⟨rfl, trivial⟩) (hj345 M46)
              · refine x_aload_n dX12_next_288 rfl ?_
                refine x_aload_n dX12_next_289 rfl ?_
                refine gfX12_398 rfl dX12_next_290 (fun x48 => ?_)
                refine x_aload_n dX12_next_293 rfl ?_
                refine gfX12_405 rfl dX12_next_294 (fun x49 => ?_)
                refine x_isub dX12_next_297 ?_
                refine x_bipush (v := 9) dX12_next_298 (by decide) ?_
                refine x_jn (σ := Int32 × Mem) 329 (fun s50 => [some (va_rf a0), none, none]) (fun s50 => [.int s50.1, va_rf a0]) (fun s50 => s50.2) (fun s50 => ?_) (fun j329 hj329 => ?_)
                · refine pfX12_422 rfl dX12_next_329 (fun M51 => ?_)
                  refine x_aload_n dX12_next_332 rfl ?_
                  refine x_dup dX12_next_333 (xc1_r _) ?_
                  refine gfX12_398 rfl dX12_next_334 (fun x52 => ?_)
                  refine x_iconst (v := 1) dX12_next_337 (by decide) ?_
                  refine x_iadd dX12_next_338 ?_
                  refine pfX12_398 rfl dX12_next_339 (fun M53 => ?_)
                  refine x_goto (tgt := 274) dX12_next_342 (by decide) ?_
                  exact x_weak (by exact ⟨rfl, trivial⟩) (hj274 M53)
                refine x_icmp_ge (tgt := 325) dX12_next_300 (by decide) (fun _ => ?_) (fun _ => ?_)
                · refine x_aload_n dX12_next_325 rfl ?_
                  refine gfX12_422 rfl dX12_next_326 (fun x54 => ?_)
                  exact x_weak (by exact ⟨rfl, trivial⟩) (hj329 (x54, M46))
                · refine x_bipush (v := 10) dX12_next_303 (by decide) ?_
                  refine x_aload_n dX12_next_305 rfl ?_
                  refine gfX12_422 rfl dX12_next_306 (fun x55 => ?_)
                  refine x_imul dX12_next_309 ?_
                  refine x_aload_n dX12_next_310 rfl ?_
                  refine x_aload_n dX12_next_311 rfl ?_
                  refine gfX12_398 rfl dX12_next_312 (fun x56 => ?_)
                  refine cmX12_401 rfl hs (Nat.le_of_ble_eq_true rfl) dX12_next_315 (fun x58 M57 => ?_)
                  refine x_iadd dX12_next_318 ?_
                  refine x_bipush (v := 48) dX12_next_319 (by decide) ?_
                  refine x_isub dX12_next_321 ?_
                  refine x_goto (tgt := 329) dX12_next_322 (by decide) ?_
                  exact x_weak (by exact ⟨rfl, trivial⟩) (hj329 (((((10 : Int32)) * x55) + x58) - ((48 : Int32)), M57))
        · refine x_aload_n dX12_next_114 rfl ?_
          refine x_lconst (v := 0) dX12_next_115 (by decide) ?_
          refine pfX12_415 rfl dX12_next_116 (fun M59 => ?_)
          refine x_jn (σ := Mem) 181 (fun s60 => [some (va_rf a0), none, none]) (fun s60 => []) (fun s60 => s60) (fun s60 => ?_) (fun j181 hj181 => ?_)
          · refine x_aload_n dX12_next_181 rfl ?_
            refine x_aload_n dX12_next_182 rfl ?_
            refine gfX12_398 rfl dX12_next_183 (fun x61 => ?_)
            refine x_aload_n dX12_next_186 rfl ?_
            refine gfX12_405 rfl dX12_next_187 (fun x62 => ?_)
            refine x_isub dX12_next_190 ?_
            refine x_bipush (v := 8) dX12_next_191 (by decide) ?_
            refine x_jn (σ := Int32) 201 (fun s63 => [some (va_rf a0), none, none]) (fun s63 => [.int s63, va_rf a0]) (fun s63 => s60) (fun s63 => ?_) (fun j201 hj201 => ?_)
            · refine pfX12_408 rfl dX12_next_201 (fun M64 => ?_)
              refine x_iconst (v := 0) dX12_next_204 (by decide) ?_
              refine x_istore_n (lo' := [some (va_rf a0), none, some (.int ((0 : Int32)))]) dX12_next_205 (by decide) rfl rfl ?_
              refine x_jn (σ := Mem) 259 (fun s65 => [none, none, none]) (fun s65 => []) (fun s65 => s65) (fun s65 => ?_) (fun j259 hj259 => ?_)
              · refine x_goto (tgt := 586) dX12_next_259 (by decide) ?_
                exact x_weak (by exact trivial) (hj586 s65)
              refine x_weak (by exact ⟨rfl, ⟨rfl, trivial⟩⟩) (x_lp (σ := Int32 × Mem) 206 (fun s66 => [some (va_rf a0), none, some (.int s66.1)]) (fun s66 => []) (fun s66 => s66.2) (fun s66 j206 hj206 => ?_) 4294967296 ((0 : Int32), M64))
              · refine x_iload_n dX12_next_206 rfl ?_
                refine x_aload_n dX12_next_207 rfl ?_
                refine gfX12_173 rfl dX12_next_208 (fun x67 => ?_)
                refine x_alen dX12_next_211 (fun x68 => ?_)
                refine x_icmp_ge (tgt := 259) dX12_next_212 (by decide) (fun _ => ?_) (fun _ => ?_)
                · exact x_weak (by exact trivial) (hj259 s66.2)
                · refine x_aload_n dX12_next_215 rfl ?_
                  refine gfX12_408 rfl dX12_next_216 (fun x69 => ?_)
                  refine x_iconst (v := 1) dX12_next_219 (by decide) ?_
                  refine x_icmp_ne (tgt := 259) dX12_next_220 (by decide) (fun _ => ?_) (fun _ => ?_)
                  · refine x_aload_n dX12_next_223 rfl ?_
                    refine x_aload_n dX12_next_224 rfl ?_
                    refine gfX12_173 rfl dX12_next_225 (fun x70 => ?_)
                    refine x_iload_n dX12_next_228 rfl ?_
                    refine x_lald dX12_next_229 (fun x71 => ?_)
                    refine x_aload_n dX12_next_230 rfl ?_
                    refine gfX12_415 rfl dX12_next_231 (fun x72 => ?_)
                    refine x_lcmp dX12_next_234 ?_
                    refine x_jn (σ := Int32) 250 (fun s73 => [some (va_rf a0), none, some (.int s66.1)]) (fun s73 => [.int s73, va_rf a0]) (fun s73 => s66.2) (fun s73 => ?_) (fun j250 hj250 => ?_)
                    · refine pfX12_408 rfl dX12_next_250 (fun M74 => ?_)
                      refine x_iincN (v := 1) (lo' := fun x75 => [some (va_rf a0), none, some (.int x75)]) (by decide) dX12_next_253 rfl (by decide) rfl (fun _ => rfl) (fun x75 => ?_)
                      refine x_goto (tgt := 206) dX12_next_256 (by decide) ?_
                      exact x_weak (by exact ⟨rfl, ⟨rfl, trivial⟩⟩) (hj206 (x75, M74))
                    refine x_if_ne (tgt := 246) dX12_next_235 (by decide) (fun _ => ?_) (fun _ => ?_)
                    · refine x_sipush (v := 401) dX12_next_238 (by decide) ?_
                      refine x_iload_n dX12_next_241 rfl ?_
                      refine x_iadd dX12_next_242 ?_
                      refine x_goto (tgt := 250) dX12_next_243 (by decide) ?_
                      exact x_weak (by exact ⟨rfl, ⟨rfl, trivial⟩⟩) (hj250 (((401 : Int32)) + s66.1))
                    · refine x_aload_n dX12_next_246 rfl ?_
                      refine gfX12_408 rfl dX12_next_247 (fun x76 => ?_)
                      exact x_weak (by exact ⟨rfl, ⟨rfl, trivial⟩⟩) (hj250 x76)
                  · exact x_weak (by exact trivial) (hj259 s66.2)
            refine x_icmp_le (tgt := 200) dX12_next_193 (by decide) (fun _ => ?_) (fun _ => ?_)
            · refine x_iconst (v := 1) dX12_next_200 (by decide) ?_
              exact x_weak (by exact ⟨rfl, trivial⟩) (hj201 ((1 : Int32)))
            · refine x_iconst (v := -1) dX12_next_196 (by decide) ?_
              refine x_goto (tgt := 201) dX12_next_197 (by decide) ?_
              exact x_weak (by exact ⟨rfl, trivial⟩) (hj201 ((-1 : Int32)))
          refine x_weak (by exact ⟨rfl, trivial⟩) (x_lp (σ := Mem) 119 (fun s77 => [some (va_rf a0), none, none]) (fun s77 => []) (fun s77 => s77) (fun s77 j119 hj119 => ?_) 4294967296 M59)
          · refine x_aload_n dX12_next_119 rfl ?_
            refine x_aload_n dX12_next_120 rfl ?_
            refine gfX12_398 rfl dX12_next_121 (fun x78 => ?_)
            refine cmX12_401 rfl hs (Nat.le_of_ble_eq_true rfl) dX12_next_124 (fun x80 M79 => ?_)
            refine cmX12_411 rfl hs (Nat.le_of_ble_eq_true rfl) dX12_next_127 (fun x82 M81 => ?_)
            refine x_jn (σ := Mem) 147 (fun s83 => [some (va_rf a0), none, none]) (fun s83 => []) (fun s83 => s83) (fun s83 => ?_) (fun j147 hj147 => ?_)
            · refine x_aload_n dX12_next_147 rfl ?_
              refine x_aload_n dX12_next_148 rfl ?_
              refine gfX12_415 rfl dX12_next_149 (fun x84 => ?_)
              refine x_bipush (v := 8) dX12_next_152 (by decide) ?_
              refine x_lshl dX12_next_154 ?_
              refine x_aload_n dX12_next_155 rfl ?_
              refine x_aload_n dX12_next_156 rfl ?_
              refine gfX12_398 rfl dX12_next_157 (fun x85 => ?_)
              refine cmX12_401 rfl hs (Nat.le_of_ble_eq_true rfl) dX12_next_160 (fun x87 M86 => ?_)
              refine x_i2l dX12_next_163 ?_
              refine x_lor dX12_next_164 ?_
              refine pfX12_415 rfl dX12_next_165 (fun M88 => ?_)
              refine x_aload_n dX12_next_168 rfl ?_
              refine x_dup dX12_next_169 (xc1_r _) ?_
              refine gfX12_398 rfl dX12_next_170 (fun x89 => ?_)
              refine x_iconst (v := 1) dX12_next_173 (by decide) ?_
              refine x_iadd dX12_next_174 ?_
              refine pfX12_398 rfl dX12_next_175 (fun M90 => ?_)
              refine x_goto (tgt := 119) dX12_next_178 (by decide) ?_
              exact x_weak (by exact ⟨rfl, trivial⟩) (hj119 M90)
            refine x_if_ne (tgt := 147) dX12_next_130 (by decide) (fun _ => ?_) (fun _ => ?_)
            · refine x_aload_n dX12_next_133 rfl ?_
              refine x_aload_n dX12_next_134 rfl ?_
              refine gfX12_398 rfl dX12_next_135 (fun x91 => ?_)
              refine cmX12_401 rfl hs (Nat.le_of_ble_eq_true rfl) dX12_next_138 (fun x93 M92 => ?_)
              refine cmX12_419 rfl hs (Nat.le_of_ble_eq_true rfl) dX12_next_141 (fun x95 M94 => ?_)
              refine x_if_eq (tgt := 181) dX12_next_144 (by decide) (fun _ => ?_) (fun _ => ?_)
              · exact x_weak (by exact ⟨rfl, trivial⟩) (hj181 M94)
              · exact x_weak (by exact ⟨rfl, trivial⟩) (hj147 M94)
            · exact x_weak (by exact ⟨rfl, trivial⟩) (hj147 M81)
    refine x_weak (by exact ⟨rfl, trivial⟩) (x_lp (σ := Mem) 8 (fun s96 => [some (va_rf a0), none, none]) (fun s96 => []) (fun s96 => s96) (fun s96 j8 hj8 => ?_) 4294967296 M0)
    · refine x_aload_n dX12_next_8 rfl ?_
      refine gfX12_398 rfl dX12_next_9 (fun x97 => ?_)
      refine x_aload_n dX12_next_12 rfl ?_
      refine gfX12_378 rfl dX12_next_13 (fun x98 => ?_)
      refine x_icmp_ge (tgt := 71) dX12_next_16 (by decide) (fun _ => ?_) (fun _ => ?_)
      · exact x_weak (by exact ⟨rfl, trivial⟩) (hj71 s96)
      · refine x_aload_n dX12_next_19 rfl ?_
        refine x_aload_n dX12_next_20 rfl ?_
        refine gfX12_398 rfl dX12_next_21 (fun x99 => ?_)
        refine cmX12_401 rfl hs (Nat.le_of_ble_eq_true rfl) dX12_next_24 (fun x101 M100 => ?_)
        refine x_bipush (v := 10) dX12_next_27 (by decide) ?_
        refine x_jn (σ := Mem) 58 (fun s102 => [some (va_rf a0), none, none]) (fun s102 => []) (fun s102 => s102) (fun s102 => ?_) (fun j58 hj58 => ?_)
        · refine x_aload_n dX12_next_58 rfl ?_
          refine x_dup dX12_next_59 (xc1_r _) ?_
          refine gfX12_398 rfl dX12_next_60 (fun x103 => ?_)
          refine x_iconst (v := 1) dX12_next_63 (by decide) ?_
          refine x_iadd dX12_next_64 ?_
          refine pfX12_398 rfl dX12_next_65 (fun M104 => ?_)
          refine x_goto (tgt := 8) dX12_next_68 (by decide) ?_
          exact x_weak (by exact ⟨rfl, trivial⟩) (hj8 M104)
        refine x_icmp_eq (tgt := 58) dX12_next_29 (by decide) (fun _ => ?_) (fun _ => ?_)
        · exact x_weak (by exact ⟨rfl, trivial⟩) (hj58 M100)
        · refine x_aload_n dX12_next_32 rfl ?_
          refine x_aload_n dX12_next_33 rfl ?_
          refine gfX12_398 rfl dX12_next_34 (fun x105 => ?_)
          refine cmX12_401 rfl hs (Nat.le_of_ble_eq_true rfl) dX12_next_37 (fun x107 M106 => ?_)
          refine x_bipush (v := 13) dX12_next_40 (by decide) ?_
          refine x_icmp_eq (tgt := 58) dX12_next_42 (by decide) (fun _ => ?_) (fun _ => ?_)
          · exact x_weak (by exact ⟨rfl, trivial⟩) (hj58 M106)
          · refine x_aload_n dX12_next_45 rfl ?_
            refine x_aload_n dX12_next_46 rfl ?_
            refine gfX12_398 rfl dX12_next_47 (fun x108 => ?_)
            refine cmX12_401 rfl hs (Nat.le_of_ble_eq_true rfl) dX12_next_50 (fun x110 M109 => ?_)
            refine x_bipush (v := 32) dX12_next_53 (by decide) ?_
            refine x_icmp_ne (tgt := 71) dX12_next_55 (by decide) (fun _ => ?_) (fun _ => ?_)
            · exact x_weak (by exact ⟨rfl, trivial⟩) (hj58 M109)
            · exact x_weak (by exact ⟨rfl, trivial⟩) (hj71 M109)
  · exact x_vret rfl dX12_next_7
theorem s191 {l : Launch} {d : Nat} {rec : Nat → List Value → Mem → XA} (hS : Nonempty XS) (hs : XSnd l xmt rec d) : Snd1 l 191 (b191 rec) d := by
  intro as M r M' h0
  unfold b191 at h0
  obtain ⟨a0, l1, e1, h1⟩ := aR_inv h0
  obtain ⟨ez, h⟩ := aZ_inv h1
  subst ez
  subst e1
  exact xmet (M := M) (as := [va_rf a0]) (lo := [some (va_rf a0)]) 191 xq191 xm191 (by rw [xargs_rf, xargs_nil]; exact ⟨rfl, trivial⟩) (by rw [xargs_rf, xargs_nil]; exact Nat.le_of_ble_eq_true rfl) (fun S G K => x_weak (by exact ⟨rfl, trivial⟩) (k191 hs a0 M)) h hS
