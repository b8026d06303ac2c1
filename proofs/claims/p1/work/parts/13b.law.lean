set_option maxRecDepth 100000 in
def cLaw_18 (rec : Nat → List Value → Mem → XA) (a0 : Option Nat) (j265 : Mem → XA) (j288 : Mem → XA) (j301 : Mem → XA) (j314 : Mem → XA) (j347 : Mem → XA) (j390 : Mem → XA) (j433 : Mem → XA) (j486 : Mem → XA) (j529 : Mem → XA) (j552 : Mem → XA) (j575 : Mem → XA) (j618 : Mem → XA) (j641 : Mem → XA) (j684 : Mem → XA) (j727 : Mem → XA) (j760 : Mem → XA) (j783 : Mem → XA) (j816 : Mem → XA) (j895 : Mem → XA) (j918 : Mem → XA) (j961 : Mem → XA) (j1004 : Mem → XA) (j1027 : Mem → XA) (j1070 : Mem → XA) (j1103 : Mem → XA) (j1146 : Mem → XA) (j1169 : Mem → XA) (j1202 : Mem → XA) (j1225 : Mem → XA) (j1300 : Mem → XA) (j1323 : Mem → XA) (j1356 : Mem → XA) (j1389 : Mem → XA) (j1412 : Mem → XA) (j1445 : Mem → XA) (j1468 : Mem → XA) (j1501 : Mem → XA) (j1534 : Mem → XA) (j1567 : Mem → XA) (j1575 : Mem → XA) (x1 : Option Nat) (x4 : Option Nat) : (Int32 × Mem) → ((Int32 × Mem) → XA) → XA := fun s47 j18 =>
  aln s47.2 a0 fun x48 =>
  if (x48 - ((7 : Int32))) < s47.1 then (
    j1575 s47.2) else (
    alI 100 s47.2 a0 s47.1 fun x49 =>
    jn (fun (s50 : Mem) =>
      lt (s47.1 + (7 : Int32)) fun (x51 : Int32) =>
      j18 (x51, s50)) fun j1569 =>
    swI (x49 &&& ((63 : Int32))) [
     ((0 : Int32), (
        alI 100 s47.2 a0 (s47.1 + ((1 : Int32))) fun x52 =>
        alI 100 s47.2 a0 (s47.1 + ((2 : Int32))) fun x53 =>
        alI 100 s47.2 a0 (s47.1 + ((3 : Int32))) fun x54 =>
        alI 100 s47.2 a0 (s47.1 + ((4 : Int32))) fun x55 =>
        alI 100 s47.2 a0 (s47.1 + ((5 : Int32))) fun x56 =>
        vC (12, 19) s47.2 x1 <|
        cI (rec 128 [va_rf x1, .int x52, .int x53, .int x54, .int x55, .int x56] s47.2) fun x58 M57 =>
        alI 100 M57 a0 (s47.1 + ((1 : Int32))) fun x59 =>
        alI 100 M57 a0 (s47.1 + ((2 : Int32))) fun x60 =>
        alI 100 M57 a0 (s47.1 + ((3 : Int32))) fun x61 =>
        alI 100 M57 a0 (s47.1 + ((4 : Int32))) fun x62 =>
        alI 100 M57 a0 (s47.1 + ((5 : Int32))) fun x63 =>
        vC (13, 157) M57 x4 <|
        cI (rec 185 [va_rf x4, .int x59, .int x60, .int x61, .int x62, .int x63] M57) fun x65 M64 =>
        if x58 = x65 then (
          j1569 M64) else (
          j265 M64))),
     ((1 : Int32), (
        alI 100 s47.2 a0 (s47.1 + ((1 : Int32))) fun x66 =>
        vC (12, 19) s47.2 x1 <|
        cI (rec 129 [va_rf x1, .int x66] s47.2) fun x68 M67 =>
        alI 100 M67 a0 (s47.1 + ((1 : Int32))) fun x69 =>
        vC (13, 157) M67 x4 <|
        cI (rec 186 [va_rf x4, .int x69] M67) fun x71 M70 =>
        if x68 = x71 then (
          j1569 M70) else (
          j288 M70))),
     ((2 : Int32), (
        vC (12, 19) s47.2 x1 <|
        cI (rec 130 [va_rf x1] s47.2) fun x73 M72 =>
        vC (13, 157) M72 x4 <|
        cI (rec 231 [va_rf x4] M72) fun x75 M74 =>
        if x73 = x75 then (
          j1569 M74) else (
          j301 M74))),
     ((3 : Int32), (
        vC (12, 19) s47.2 x1 <|
        cI (rec 131 [va_rf x1] s47.2) fun x77 M76 =>
        vC (13, 157) M76 x4 <|
        cI (rec 234 [va_rf x4] M76) fun x79 M78 =>
        if x77 = x79 then (
          j1569 M78) else (
          j314 M78))),
     ((4 : Int32), (
        alI 100 s47.2 a0 (s47.1 + ((1 : Int32))) fun x80 =>
        alI 100 s47.2 a0 (s47.1 + ((2 : Int32))) fun x81 =>
        vC (12, 19) s47.2 x1 <|
        cI (rec 132 [va_rf x1, .int x80, .int x81] s47.2) fun x83 M82 =>
        alI 100 M82 a0 (s47.1 + ((1 : Int32))) fun x84 =>
        alI 100 M82 a0 (s47.1 + ((2 : Int32))) fun x85 =>
        vC (13, 157) M82 x4 <|
        cI (rec 263 [va_rf x4, .int x84, .int x85] M82) fun x87 M86 =>
        if x83 = x87 then (
          j1569 M86) else (
          j347 M86))),
     ((5 : Int32), (
        alI 100 s47.2 a0 (s47.1 + ((1 : Int32))) fun x88 =>
        alI 100 s47.2 a0 (s47.1 + ((2 : Int32))) fun x89 =>
        alI 100 s47.2 a0 (s47.1 + ((3 : Int32))) fun x90 =>
        vC (12, 19) s47.2 x1 <|
        cI (rec 133 [va_rf x1, .int x88, .int x89, .int x90] s47.2) fun x92 M91 =>
        alI 100 M91 a0 (s47.1 + ((1 : Int32))) fun x93 =>
        alI 100 M91 a0 (s47.1 + ((2 : Int32))) fun x94 =>
        alI 100 M91 a0 (s47.1 + ((3 : Int32))) fun x95 =>
        vC (13, 157) M91 x4 <|
        cI (rec 264 [va_rf x4, .int x93, .int x94, .int x95] M91) fun x97 M96 =>
        if x92 = x97 then (
          j1569 M96) else (
          j390 M96))),
     ((6 : Int32), (
        alI 100 s47.2 a0 (s47.1 + ((1 : Int32))) fun x98 =>
        alI 100 s47.2 a0 (s47.1 + ((2 : Int32))) fun x99 =>
        alI 100 s47.2 a0 (s47.1 + ((3 : Int32))) fun x100 =>
        vC (12, 19) s47.2 x1 <|
        cI (rec 134 [va_rf x1, .int x98, .int x99, .int x100] s47.2) fun x102 M101 =>
        alI 100 M101 a0 (s47.1 + ((1 : Int32))) fun x103 =>
        alI 100 M101 a0 (s47.1 + ((2 : Int32))) fun x104 =>
        alI 100 M101 a0 (s47.1 + ((3 : Int32))) fun x105 =>
        vC (13, 157) M101 x4 <|
        cI (rec 265 [va_rf x4, .int x103, .int x104, .int x105] M101) fun x107 M106 =>
        if x102 = x107 then (
          j1569 M106) else (
          j433 M106))),
     ((7 : Int32), (
        alI 100 s47.2 a0 (s47.1 + ((1 : Int32))) fun x108 =>
        alI 100 s47.2 a0 (s47.1 + ((2 : Int32))) fun x109 =>
        alI 100 s47.2 a0 (s47.1 + ((3 : Int32))) fun x110 =>
        alI 100 s47.2 a0 (s47.1 + ((4 : Int32))) fun x111 =>
        vC (12, 19) s47.2 x1 <|
        cI (rec 135 [va_rf x1, .int x108, .int x109, .int x110, .int x111] s47.2) fun x113 M112 =>
        alI 100 M112 a0 (s47.1 + ((1 : Int32))) fun x114 =>
        alI 100 M112 a0 (s47.1 + ((2 : Int32))) fun x115 =>
        alI 100 M112 a0 (s47.1 + ((3 : Int32))) fun x116 =>
        alI 100 M112 a0 (s47.1 + ((4 : Int32))) fun x117 =>
        vC (13, 157) M112 x4 <|
        cI (rec 266 [va_rf x4, .int x114, .int x115, .int x116, .int x117] M112) fun x119 M118 =>
        if x113 = x119 then (
          j1569 M118) else (
          j486 M118))),
     ((8 : Int32), (
        alI 100 s47.2 a0 (s47.1 + ((1 : Int32))) fun x120 =>
        alI 100 s47.2 a0 (s47.1 + ((2 : Int32))) fun x121 =>
        alI 100 s47.2 a0 (s47.1 + ((3 : Int32))) fun x122 =>
        vC (12, 19) s47.2 x1 <|
        cI (rec 136 [va_rf x1, .int x120, .int x121, .int x122] s47.2) fun x124 M123 =>
        alI 100 M123 a0 (s47.1 + ((1 : Int32))) fun x125 =>
        alI 100 M123 a0 (s47.1 + ((2 : Int32))) fun x126 =>
        alI 100 M123 a0 (s47.1 + ((3 : Int32))) fun x127 =>
        vC (13, 157) M123 x4 <|
        cI (rec 267 [va_rf x4, .int x125, .int x126, .int x127] M123) fun x129 M128 =>
        if x124 = x129 then (
          j1569 M128) else (
          j529 M128))),
     ((9 : Int32), (
        alI 100 s47.2 a0 (s47.1 + ((1 : Int32))) fun x130 =>
        vC (12, 19) s47.2 x1 <|
        cI (rec 137 [va_rf x1, .int x130] s47.2) fun x132 M131 =>
        alI 100 M131 a0 (s47.1 + ((1 : Int32))) fun x133 =>
        vC (13, 157) M131 x4 <|
        cI (rec 268 [va_rf x4, .int x133] M131) fun x135 M134 =>
        if x132 = x135 then (
          j1569 M134) else (
          j552 M134))),
     ((10 : Int32), (
        alI 100 s47.2 a0 (s47.1 + ((1 : Int32))) fun x136 =>
        vC (12, 19) s47.2 x1 <|
        cI (rec 138 [va_rf x1, .int x136] s47.2) fun x138 M137 =>
        alI 100 M137 a0 (s47.1 + ((1 : Int32))) fun x139 =>
        vC (13, 157) M137 x4 <|
        cI (rec 269 [va_rf x4, .int x139] M137) fun x141 M140 =>
        if x138 = x141 then (
          j1569 M140) else (
          j575 M140))),
     ((11 : Int32), (
        alI 100 s47.2 a0 (s47.1 + ((1 : Int32))) fun x142 =>
        alI 100 s47.2 a0 (s47.1 + ((2 : Int32))) fun x143 =>
        alI 100 s47.2 a0 (s47.1 + ((3 : Int32))) fun x144 =>
        vC (12, 19) s47.2 x1 <|
        cI (rec 139 [va_rf x1, .int x142, .int x143, .int x144] s47.2) fun x146 M145 =>
        alI 100 M145 a0 (s47.1 + ((1 : Int32))) fun x147 =>
        alI 100 M145 a0 (s47.1 + ((2 : Int32))) fun x148 =>
        alI 100 M145 a0 (s47.1 + ((3 : Int32))) fun x149 =>
        vC (13, 157) M145 x4 <|
        cI (rec 270 [va_rf x4, .int x147, .int x148, .int x149] M145) fun x151 M150 =>
        if x146 = x151 then (
          j1569 M150) else (
          j618 M150))),
     ((12 : Int32), (
        alI 100 s47.2 a0 (s47.1 + ((1 : Int32))) fun x152 =>
        vC (12, 19) s47.2 x1 <|
        cI (rec 140 [va_rf x1, .int x152] s47.2) fun x154 M153 =>
        alI 100 M153 a0 (s47.1 + ((1 : Int32))) fun x155 =>
        vC (13, 157) M153 x4 <|
        cI (rec 257 [va_rf x4, .int x155] M153) fun x157 M156 =>
        if x154 = x157 then (
          j1569 M156) else (
          j641 M156))),
     ((13 : Int32), (
        alI 100 s47.2 a0 (s47.1 + ((1 : Int32))) fun x158 =>
        alI 100 s47.2 a0 (s47.1 + ((2 : Int32))) fun x159 =>
        alI 100 s47.2 a0 (s47.1 + ((3 : Int32))) fun x160 =>
        vC (12, 19) s47.2 x1 <|
        cI (rec 141 [va_rf x1, .int x158, .int x159, .int x160] s47.2) fun x162 M161 =>
        alI 100 M161 a0 (s47.1 + ((1 : Int32))) fun x163 =>
        alI 100 M161 a0 (s47.1 + ((2 : Int32))) fun x164 =>
        alI 100 M161 a0 (s47.1 + ((3 : Int32))) fun x165 =>
        vC (13, 157) M161 x4 <|
        cI (rec 258 [va_rf x4, .int x163, .int x164, .int x165] M161) fun x167 M166 =>
        if x162 = x167 then (
          j1569 M166) else (
          j684 M166))),
     ((14 : Int32), (
        alI 100 s47.2 a0 (s47.1 + ((1 : Int32))) fun x168 =>
        alI 100 s47.2 a0 (s47.1 + ((2 : Int32))) fun x169 =>
        alI 100 s47.2 a0 (s47.1 + ((3 : Int32))) fun x170 =>
        vC (12, 19) s47.2 x1 <|
        cI (rec 142 [va_rf x1, .int x168, .int x169, .int x170] s47.2) fun x172 M171 =>
        alI 100 M171 a0 (s47.1 + ((1 : Int32))) fun x173 =>
        alI 100 M171 a0 (s47.1 + ((2 : Int32))) fun x174 =>
        alI 100 M171 a0 (s47.1 + ((3 : Int32))) fun x175 =>
        vC (13, 157) M171 x4 <|
        cI (rec 259 [va_rf x4, .int x173, .int x174, .int x175] M171) fun x177 M176 =>
        if x172 = x177 then (
          j1569 M176) else (
          j727 M176))),
     ((15 : Int32), (
        alI 100 s47.2 a0 (s47.1 + ((1 : Int32))) fun x178 =>
        alI 100 s47.2 a0 (s47.1 + ((2 : Int32))) fun x179 =>
        vC (12, 19) s47.2 x1 <|
        cI (rec 143 [va_rf x1, .int x178, .int x179] s47.2) fun x181 M180 =>
        alI 100 M180 a0 (s47.1 + ((1 : Int32))) fun x182 =>
        alI 100 M180 a0 (s47.1 + ((2 : Int32))) fun x183 =>
        vC (13, 157) M180 x4 <|
        cI (rec 261 [va_rf x4, .int x182, .int x183] M180) fun x185 M184 =>
        if x181 = x185 then (
          j1569 M184) else (
          j760 M184))),
     ((16 : Int32), (
        alI 100 s47.2 a0 (s47.1 + ((1 : Int32))) fun x186 =>
        vC (12, 19) s47.2 x1 <|
        cI (rec 144 [va_rf x1, .int x186] s47.2) fun x188 M187 =>
        alI 100 M187 a0 (s47.1 + ((1 : Int32))) fun x189 =>
        vC (13, 157) M187 x4 <|
        cI (rec 262 [va_rf x4, .int x189] M187) fun x191 M190 =>
        if x188 = x191 then (
          j1569 M190) else (
          j783 M190))),
     ((17 : Int32), (
        alI 100 s47.2 a0 (s47.1 + ((1 : Int32))) fun x192 =>
        alI 100 s47.2 a0 (s47.1 + ((2 : Int32))) fun x193 =>
        vC (12, 19) s47.2 x1 <|
        cI (rec 145 [va_rf x1, .int x192, .int x193] s47.2) fun x195 M194 =>
        alI 100 M194 a0 (s47.1 + ((1 : Int32))) fun x196 =>
        alI 100 M194 a0 (s47.1 + ((2 : Int32))) fun x197 =>
        vC (13, 157) M194 x4 <|
        cI (rec 273 [va_rf x4, .int x196, .int x197] M194) fun x199 M198 =>
        if x195 = x199 then (
          j1569 M198) else (
          j816 M198))),
     ((18 : Int32), (
        alI 100 s47.2 a0 (s47.1 + ((1 : Int32))) fun x200 =>
        alI 100 s47.2 a0 (s47.1 + ((2 : Int32))) fun x201 =>
        alI 100 s47.2 a0 (s47.1 + ((3 : Int32))) fun x202 =>
        alI 100 s47.2 a0 (s47.1 + ((4 : Int32))) fun x203 =>
        jn (fun (s204 : Int32) =>
          alI 100 s47.2 a0 (s47.1 + ((5 : Int32))) fun x205 =>
          vC (12, 19) s47.2 x1 <|
          cI (rec 146 [va_rf x1, .int x200, .int x201, .int x202, .int s204, .int x205] s47.2) fun x207 M206 =>
          alI 100 M206 a0 (s47.1 + ((1 : Int32))) fun x208 =>
          alI 100 M206 a0 (s47.1 + ((2 : Int32))) fun x209 =>
          alI 100 M206 a0 (s47.1 + ((3 : Int32))) fun x210 =>
          alI 100 M206 a0 (s47.1 + ((4 : Int32))) fun x211 =>
          jn (fun (s212 : Int32) =>
            alI 100 M206 a0 (s47.1 + ((5 : Int32))) fun x213 =>
            vC (13, 157) M206 x4 <|
            cI (rec 275 [va_rf x4, .int x208, .int x209, .int x210, .int s212, .int x213] M206) fun x215 M214 =>
            if x207 = x215 then (
              j1569 M214) else (
              j895 M214)) fun j884 =>
          if x211 = 0 then (
            j884 ((0 : Int32))) else (
            j884 ((1 : Int32)))) fun j847 =>
        if x203 = 0 then (
          j847 ((0 : Int32))) else (
          j847 ((1 : Int32))))),
     ((19 : Int32), (
        alI 100 s47.2 a0 (s47.1 + ((1 : Int32))) fun x216 =>
        vC (12, 19) s47.2 x1 <|
        cI (rec 147 [va_rf x1, .int x216] s47.2) fun x218 M217 =>
        alI 100 M217 a0 (s47.1 + ((1 : Int32))) fun x219 =>
        vC (13, 157) M217 x4 <|
        cI (rec 276 [va_rf x4, .int x219] M217) fun x221 M220 =>
        if x218 = x221 then (
          j1569 M220) else (
          j918 M220))),
     ((20 : Int32), (
        alI 100 s47.2 a0 (s47.1 + ((1 : Int32))) fun x222 =>
        alI 100 s47.2 a0 (s47.1 + ((2 : Int32))) fun x223 =>
        alI 100 s47.2 a0 (s47.1 + ((3 : Int32))) fun x224 =>
        vC (12, 19) s47.2 x1 <|
        cI (rec 148 [va_rf x1, .int x222, .int x223, .int x224] s47.2) fun x226 M225 =>
        alI 100 M225 a0 (s47.1 + ((1 : Int32))) fun x227 =>
        alI 100 M225 a0 (s47.1 + ((2 : Int32))) fun x228 =>
        alI 100 M225 a0 (s47.1 + ((3 : Int32))) fun x229 =>
        vC (13, 157) M225 x4 <|
        cI (rec 280 [va_rf x4, .int x227, .int x228, .int x229] M225) fun x231 M230 =>
        if x226 = x231 then (
          j1569 M230) else (
          j961 M230))),
     ((21 : Int32), (
        alI 100 s47.2 a0 (s47.1 + ((1 : Int32))) fun x232 =>
        alI 100 s47.2 a0 (s47.1 + ((2 : Int32))) fun x233 =>
        alI 100 s47.2 a0 (s47.1 + ((3 : Int32))) fun x234 =>
        vC (12, 19) s47.2 x1 <|
        cI (rec 149 [va_rf x1, .int x232, .int x233, .int x234] s47.2) fun x236 M235 =>
        alI 100 M235 a0 (s47.1 + ((1 : Int32))) fun x237 =>
        alI 100 M235 a0 (s47.1 + ((2 : Int32))) fun x238 =>
        alI 100 M235 a0 (s47.1 + ((3 : Int32))) fun x239 =>
        vC (13, 157) M235 x4 <|
        cI (rec 281 [va_rf x4, .int x237, .int x238, .int x239] M235) fun x241 M240 =>
        if x236 = x241 then (
          j1569 M240) else (
          j1004 M240))),
     ((22 : Int32), (
        alI 100 s47.2 a0 (s47.1 + ((1 : Int32))) fun x242 =>
        vC (12, 19) s47.2 x1 <|
        cI (rec 150 [va_rf x1, .int x242] s47.2) fun x244 M243 =>
        alI 100 M243 a0 (s47.1 + ((1 : Int32))) fun x245 =>
        vC (13, 157) M243 x4 <|
        cI (rec 283 [va_rf x4, .int x245] M243) fun x247 M246 =>
        if x244 = x247 then (
          j1569 M246) else (
          j1027 M246))),
     ((23 : Int32), (
        alI 100 s47.2 a0 (s47.1 + ((1 : Int32))) fun x248 =>
        alI 100 s47.2 a0 (s47.1 + ((2 : Int32))) fun x249 =>
        alI 100 s47.2 a0 (s47.1 + ((3 : Int32))) fun x250 =>
        vC (12, 19) s47.2 x1 <|
        cI (rec 151 [va_rf x1, .int x248, .int x249, .int x250] s47.2) fun x252 M251 =>
        alI 100 M251 a0 (s47.1 + ((1 : Int32))) fun x253 =>
        alI 100 M251 a0 (s47.1 + ((2 : Int32))) fun x254 =>
        alI 100 M251 a0 (s47.1 + ((3 : Int32))) fun x255 =>
        vC (13, 157) M251 x4 <|
        cI (rec 286 [va_rf x4, .int x253, .int x254, .int x255] M251) fun x257 M256 =>
        if x252 = x257 then (
          j1569 M256) else (
          j1070 M256))),
     ((24 : Int32), (
        alI 100 s47.2 a0 (s47.1 + ((1 : Int32))) fun x258 =>
        alI 100 s47.2 a0 (s47.1 + ((2 : Int32))) fun x259 =>
        vC (12, 19) s47.2 x1 <|
        cI (rec 152 [va_rf x1, .int x258, .int x259] s47.2) fun x261 M260 =>
        alI 100 M260 a0 (s47.1 + ((1 : Int32))) fun x262 =>
        alI 100 M260 a0 (s47.1 + ((2 : Int32))) fun x263 =>
        vC (13, 157) M260 x4 <|
        cI (rec 287 [va_rf x4, .int x262, .int x263] M260) fun x265 M264 =>
        if x261 = x265 then (
          j1569 M264) else (
          j1103 M264))),
     ((25 : Int32), (
        alI 100 s47.2 a0 (s47.1 + ((1 : Int32))) fun x266 =>
        alI 100 s47.2 a0 (s47.1 + ((2 : Int32))) fun x267 =>
        alI 100 s47.2 a0 (s47.1 + ((3 : Int32))) fun x268 =>
        vC (12, 19) s47.2 x1 <|
        cI (rec 153 [va_rf x1, .int x266, .int x267, .int x268] s47.2) fun x270 M269 =>
        alI 100 M269 a0 (s47.1 + ((1 : Int32))) fun x271 =>
        alI 100 M269 a0 (s47.1 + ((2 : Int32))) fun x272 =>
        alI 100 M269 a0 (s47.1 + ((3 : Int32))) fun x273 =>
        vC (13, 157) M269 x4 <|
        cI (rec 289 [va_rf x4, .int x271, .int x272, .int x273] M269) fun x275 M274 =>
        if x270 = x275 then (
          j1569 M274) else (
          j1146 M274))),
     ((26 : Int32), (
        alI 100 s47.2 a0 (s47.1 + ((1 : Int32))) fun x276 =>
        vC (12, 19) s47.2 x1 <|
        cI (rec 154 [va_rf x1, .int x276] s47.2) fun x278 M277 =>
        alI 100 M277 a0 (s47.1 + ((1 : Int32))) fun x279 =>
        vC (13, 157) M277 x4 <|
        cI (rec 290 [va_rf x4, .int x279] M277) fun x281 M280 =>
        if x278 = x281 then (
          j1569 M280) else (
          j1169 M280))),
     ((27 : Int32), (
        alI 100 s47.2 a0 (s47.1 + ((1 : Int32))) fun x282 =>
        alI 100 s47.2 a0 (s47.1 + ((2 : Int32))) fun x283 =>
        vC (12, 19) s47.2 x1 <|
        cI (rec 155 [va_rf x1, .int x282, .int x283] s47.2) fun x285 M284 =>
        alI 100 M284 a0 (s47.1 + ((1 : Int32))) fun x286 =>
        alI 100 M284 a0 (s47.1 + ((2 : Int32))) fun x287 =>
        vC (13, 157) M284 x4 <|
        cI (rec 292 [va_rf x4, .int x286, .int x287] M284) fun x289 M288 =>
        if x285 = x289 then (
          j1569 M288) else (
          j1202 M288))),
     ((28 : Int32), (
        alI 100 s47.2 a0 (s47.1 + ((1 : Int32))) fun x290 =>
        vC (12, 19) s47.2 x1 <|
        cI (rec 156 [va_rf x1, .int x290] s47.2) fun x292 M291 =>
        alI 100 M291 a0 (s47.1 + ((1 : Int32))) fun x293 =>
        vC (13, 157) M291 x4 <|
        cI (rec 293 [va_rf x4, .int x293] M291) fun x295 M294 =>
        if x292 = x295 then (
          j1569 M294) else (
          j1225 M294))),
     ((29 : Int32), (
        alI 100 s47.2 a0 (s47.1 + ((1 : Int32))) fun x296 =>
        alI 100 s47.2 a0 (s47.1 + ((2 : Int32))) fun x297 =>
        alI 100 s47.2 a0 (s47.1 + ((3 : Int32))) fun x298 =>
        alI 100 s47.2 a0 (s47.1 + ((4 : Int32))) fun x299 =>
        alI 100 s47.2 a0 (s47.1 + ((5 : Int32))) fun x300 =>
        alI 100 s47.2 a0 (s47.1 + ((6 : Int32))) fun x301 =>
        vC (12, 19) s47.2 x1 <|
        cI (rec 157 [va_rf x1, .int x296, .int x297, .int x298, .int x299, .int x300, .int x301] s47.2) fun x303 M302 =>
        alI 100 M302 a0 (s47.1 + ((1 : Int32))) fun x304 =>
        alI 100 M302 a0 (s47.1 + ((2 : Int32))) fun x305 =>
        alI 100 M302 a0 (s47.1 + ((3 : Int32))) fun x306 =>
        alI 100 M302 a0 (s47.1 + ((4 : Int32))) fun x307 =>
        alI 100 M302 a0 (s47.1 + ((5 : Int32))) fun x308 =>
        alI 100 M302 a0 (s47.1 + ((6 : Int32))) fun x309 =>
        vC (13, 157) M302 x4 <|
        cI (rec 294 [va_rf x4, .int x304, .int x305, .int x306, .int x307, .int x308, .int x309] M302) fun x311 M310 =>
        if x303 = x311 then (
          j1569 M310) else (
          j1300 M310))),
     ((30 : Int32), (
        alI 100 s47.2 a0 (s47.1 + ((1 : Int32))) fun x312 =>
        vC (12, 19) s47.2 x1 <|
        cI (rec 158 [va_rf x1, .int x312] s47.2) fun x314 M313 =>
        alI 100 M313 a0 (s47.1 + ((1 : Int32))) fun x315 =>
        vC (13, 157) M313 x4 <|
        cI (rec 298 [va_rf x4, .int x315] M313) fun x317 M316 =>
        if x314 = x317 then (
          j1569 M316) else (
          j1323 M316))),
     ((31 : Int32), (
        alI 100 s47.2 a0 (s47.1 + ((1 : Int32))) fun x318 =>
        alI 100 s47.2 a0 (s47.1 + ((2 : Int32))) fun x319 =>
        vC (12, 19) s47.2 x1 <|
        cI (rec 159 [va_rf x1, .int x318, .int x319] s47.2) fun x321 M320 =>
        alI 100 M320 a0 (s47.1 + ((1 : Int32))) fun x322 =>
        alI 100 M320 a0 (s47.1 + ((2 : Int32))) fun x323 =>
        vC (13, 157) M320 x4 <|
        cI (rec 299 [va_rf x4, .int x322, .int x323] M320) fun x325 M324 =>
        if x321 = x325 then (
          j1569 M324) else (
          j1356 M324))),
     ((32 : Int32), (
        alI 100 s47.2 a0 (s47.1 + ((1 : Int32))) fun x326 =>
        alI 100 s47.2 a0 (s47.1 + ((2 : Int32))) fun x327 =>
        vC (12, 19) s47.2 x1 <|
        cI (rec 160 [va_rf x1, .int x326, .int x327] s47.2) fun x329 M328 =>
        alI 100 M328 a0 (s47.1 + ((1 : Int32))) fun x330 =>
        alI 100 M328 a0 (s47.1 + ((2 : Int32))) fun x331 =>
        vC (13, 157) M328 x4 <|
        cI (rec 301 [va_rf x4, .int x330, .int x331] M328) fun x333 M332 =>
        if x329 = x333 then (
          j1569 M332) else (
          j1389 M332))),
     ((33 : Int32), (
        alI 100 s47.2 a0 (s47.1 + ((1 : Int32))) fun x334 =>
        vC (12, 19) s47.2 x1 <|
        cI (rec 161 [va_rf x1, .int x334] s47.2) fun x336 M335 =>
        alI 100 M335 a0 (s47.1 + ((1 : Int32))) fun x337 =>
        vC (13, 157) M335 x4 <|
        cI (rec 302 [va_rf x4, .int x337] M335) fun x339 M338 =>
        if x336 = x339 then (
          j1569 M338) else (
          j1412 M338))),
     ((34 : Int32), (
        alI 100 s47.2 a0 (s47.1 + ((1 : Int32))) fun x340 =>
        alI 100 s47.2 a0 (s47.1 + ((2 : Int32))) fun x341 =>
        vC (12, 19) s47.2 x1 <|
        cI (rec 162 [va_rf x1, .int x340, .int x341] s47.2) fun x343 M342 =>
        alI 100 M342 a0 (s47.1 + ((1 : Int32))) fun x344 =>
        alI 100 M342 a0 (s47.1 + ((2 : Int32))) fun x345 =>
        vC (13, 157) M342 x4 <|
        cI (rec 304 [va_rf x4, .int x344, .int x345] M342) fun x347 M346 =>
        if x343 = x347 then (
          j1569 M346) else (
          j1445 M346))),
     ((35 : Int32), (
        alI 100 s47.2 a0 (s47.1 + ((1 : Int32))) fun x348 =>
        vC (12, 19) s47.2 x1 <|
        cI (rec 163 [va_rf x1, .int x348] s47.2) fun x350 M349 =>
        alI 100 M349 a0 (s47.1 + ((1 : Int32))) fun x351 =>
        vC (13, 157) M349 x4 <|
        cI (rec 305 [va_rf x4, .int x351] M349) fun x353 M352 =>
        if x350 = x353 then (
          j1569 M352) else (
          j1468 M352))),
     ((36 : Int32), (
        alI 100 s47.2 a0 (s47.1 + ((1 : Int32))) fun x354 =>
        alI 100 s47.2 a0 (s47.1 + ((2 : Int32))) fun x355 =>
        vC (12, 19) s47.2 x1 <|
        cI (rec 164 [va_rf x1, .int x354, .int x355] s47.2) fun x357 M356 =>
        alI 100 M356 a0 (s47.1 + ((1 : Int32))) fun x358 =>
        alI 100 M356 a0 (s47.1 + ((2 : Int32))) fun x359 =>
        vC (13, 157) M356 x4 <|
        cI (rec 306 [va_rf x4, .int x358, .int x359] M356) fun x361 M360 =>
        if x357 = x361 then (
          j1569 M360) else (
          j1501 M360))),
     ((37 : Int32), (
        alI 100 s47.2 a0 (s47.1 + ((1 : Int32))) fun x362 =>
        alI 100 s47.2 a0 (s47.1 + ((2 : Int32))) fun x363 =>
        vC (12, 19) s47.2 x1 <|
        cI (rec 165 [va_rf x1, .int x362, .int x363] s47.2) fun x365 M364 =>
        alI 100 M364 a0 (s47.1 + ((1 : Int32))) fun x366 =>
        alI 100 M364 a0 (s47.1 + ((2 : Int32))) fun x367 =>
        vC (13, 157) M364 x4 <|
        cI (rec 308 [va_rf x4, .int x366, .int x367] M364) fun x369 M368 =>
        if x365 = x369 then (
          j1569 M368) else (
          j1534 M368))),
     ((38 : Int32), (
        alI 100 s47.2 a0 (s47.1 + ((1 : Int32))) fun x370 =>
        alI 100 s47.2 a0 (s47.1 + ((2 : Int32))) fun x371 =>
        vC (12, 19) s47.2 x1 <|
        cI (rec 166 [va_rf x1, .int x370, .int x371] s47.2) fun x373 M372 =>
        alI 100 M372 a0 (s47.1 + ((1 : Int32))) fun x374 =>
        alI 100 M372 a0 (s47.1 + ((2 : Int32))) fun x375 =>
        vC (13, 157) M372 x4 <|
        cI (rec 309 [va_rf x4, .int x374, .int x375] M372) fun x377 M376 =>
        if x373 = x377 then (
          j1569 M376) else (
          j1567 M376)))] (
      j1569 s47.2))
set_option maxRecDepth 100000 in
def cLaw (rec : Nat → List Value → Mem → XA) (a0 : Option Nat) (M0 : Mem) : XA :=
  nO (12, 19) M0 fun x1 M2 =>
  vC (12, 19) M2 x1 <|
  cV (rec 127 [va_rf x1] M2) fun M3 =>
  nO (13, 157) M3 fun x4 M5 =>
  vC (13, 157) M5 x4 <|
  cV (rec 183 [va_rf x4] M5) fun M6 =>
  jn (fun (s7 : Mem) =>
    rtZ ((0 : Int32)) s7) fun j265 =>
  jn (fun (s8 : Mem) =>
    rtZ ((0 : Int32)) s8) fun j288 =>
  jn (fun (s9 : Mem) =>
    rtZ ((0 : Int32)) s9) fun j301 =>
  jn (fun (s10 : Mem) =>
    rtZ ((0 : Int32)) s10) fun j314 =>
  jn (fun (s11 : Mem) =>
    rtZ ((0 : Int32)) s11) fun j347 =>
  jn (fun (s12 : Mem) =>
    rtZ ((0 : Int32)) s12) fun j390 =>
  jn (fun (s13 : Mem) =>
    rtZ ((0 : Int32)) s13) fun j433 =>
  jn (fun (s14 : Mem) =>
    rtZ ((0 : Int32)) s14) fun j486 =>
  jn (fun (s15 : Mem) =>
    rtZ ((0 : Int32)) s15) fun j529 =>
  jn (fun (s16 : Mem) =>
    rtZ ((0 : Int32)) s16) fun j552 =>
  jn (fun (s17 : Mem) =>
    rtZ ((0 : Int32)) s17) fun j575 =>
  jn (fun (s18 : Mem) =>
    rtZ ((0 : Int32)) s18) fun j618 =>
  jn (fun (s19 : Mem) =>
    rtZ ((0 : Int32)) s19) fun j641 =>
  jn (fun (s20 : Mem) =>
    rtZ ((0 : Int32)) s20) fun j684 =>
  jn (fun (s21 : Mem) =>
    rtZ ((0 : Int32)) s21) fun j727 =>
  jn (fun (s22 : Mem) =>
    rtZ ((0 : Int32)) s22) fun j760 =>
  jn (fun (s23 : Mem) =>
    rtZ ((0 : Int32)) s23) fun j783 =>
  jn (fun (s24 : Mem) =>
    rtZ ((0 : Int32)) s24) fun j816 =>
  jn (fun (s25 : Mem) =>
    rtZ ((0 : Int32)) s25) fun j895 =>
  jn (fun (s26 : Mem) =>
    rtZ ((0 : Int32)) s26) fun j918 =>
  jn (fun (s27 : Mem) =>
    rtZ ((0 : Int32)) s27) fun j961 =>
  jn (fun (s28 : Mem) =>
    rtZ ((0 : Int32)) s28) fun j1004 =>
  jn (fun (s29 : Mem) =>
    rtZ ((0 : Int32)) s29) fun j1027 =>
  jn (fun (s30 : Mem) =>
    rtZ ((0 : Int32)) s30) fun j1070 =>
  jn (fun (s31 : Mem) =>
    rtZ ((0 : Int32)) s31) fun j1103 =>
  jn (fun (s32 : Mem) =>
    rtZ ((0 : Int32)) s32) fun j1146 =>
  jn (fun (s33 : Mem) =>
    rtZ ((0 : Int32)) s33) fun j1169 =>
  jn (fun (s34 : Mem) =>
    rtZ ((0 : Int32)) s34) fun j1202 =>
  jn (fun (s35 : Mem) =>
    rtZ ((0 : Int32)) s35) fun j1225 =>
  jn (fun (s36 : Mem) =>
    rtZ ((0 : Int32)) s36) fun j1300 =>
  jn (fun (s37 : Mem) =>
    rtZ ((0 : Int32)) s37) fun j1323 =>
  jn (fun (s38 : Mem) =>
    rtZ ((0 : Int32)) s38) fun j1356 =>
  jn (fun (s39 : Mem) =>
    rtZ ((0 : Int32)) s39) fun j1389 =>
  jn (fun (s40 : Mem) =>
    rtZ ((0 : Int32)) s40) fun j1412 =>
  jn (fun (s41 : Mem) =>
    rtZ ((0 : Int32)) s41) fun j1445 =>
  jn (fun (s42 : Mem) =>
    rtZ ((0 : Int32)) s42) fun j1468 =>
  jn (fun (s43 : Mem) =>
    rtZ ((0 : Int32)) s43) fun j1501 =>
  jn (fun (s44 : Mem) =>
    rtZ ((0 : Int32)) s44) fun j1534 =>
  jn (fun (s45 : Mem) =>
    rtZ ((0 : Int32)) s45) fun j1567 =>
  jn (fun (s46 : Mem) =>
    rtZ ((1 : Int32)) s46) fun j1575 =>
  lp (cLaw_18 rec a0 j265 j288 j301 j314 j347 j390 j433 j486 j529 j552 j575 j618 j641 j684 j727 j760 j783 j816 j895 j918 j961 j1004 j1027 j1070 j1103 j1146 j1169 j1202 j1225 j1300 j1323 j1356 j1389 j1412 j1445 j1468 j1501 j1534 j1567 j1575 x1 x4) 4294967296 ((0 : Int32), M6)
set_option maxRecDepth 100000 in
set_option maxHeartbeats 8000000 in
theorem kLaw {S : XS} {G : XG} {K : Nat × Nat} {l : Launch} {d : Nat} {rec : Nat → List Value → Mem → XA} {nm : String} (hs : XSnd l xmt rec d) (a0 : Option Nat) (M0 : Mem) : Xe S G K l ((⟨RL, nm, "([I)Z"⟩ : MethodName), cL_law, 4, some .boolean) d 0 [some (va_rf a0), none, none, none] [] M0 (cLaw rec a0 M0) := by
  unfold cLaw
  refine nwL_7 rfl dL_law_0 (fun x1 M2 => ?_)
  refine x_dup dL_law_3 (xc1_r _) ?_
  refine cmL_9 rfl hs (Nat.le_of_ble_eq_true rfl) dL_law_4 (fun M3 => ?_)
  refine x_astore_n (lo' := [some (va_rf a0), some (va_rf x1), none, none]) dL_law_7 (Nat.le_of_ble_eq_true rfl) (xok_r rfl) rfl ?_
  refine nwL_10 rfl dL_law_8 (fun x4 M5 => ?_)
  refine x_dup dL_law_11 (xc1_r _) ?_
  refine cmL_12 rfl hs (Nat.le_of_ble_eq_true rfl) dL_law_12 (fun M6 => ?_)
  refine x_astore_n (lo' := [some (va_rf a0), some (va_rf x1), some (va_rf x4), none]) dL_law_15 (Nat.le_of_ble_eq_true rfl) (xok_r rfl) rfl ?_
  refine x_iconst (v := 0) dL_law_16 (by decide) ?_
  refine x_istore_n (lo' := [some (va_rf a0), some (va_rf x1), some (va_rf x4), some (.int ((0 : Int32)))]) dL_law_17 (Nat.le_of_ble_eq_true rfl) (xok_r rfl) rfl ?_
  refine x_jn (σ := Mem) 265 (fun s7 => [none, none, none, none]) (fun s7 => []) (fun s7 => s7) (fun s7 => ?_) (fun j265 hj265 => ?_)
  · refine x_iconst (v := 0) dL_law_265 (by decide) ?_
    exact x_zret rfl dL_law_266
  refine x_jn (σ := Mem) 288 (fun s8 => [none, none, none, none]) (fun s8 => []) (fun s8 => s8) (fun s8 => ?_) (fun j288 hj288 => ?_)
  · refine x_iconst (v := 0) dL_law_288 (by decide) ?_
    exact x_zret rfl dL_law_289
  refine x_jn (σ := Mem) 301 (fun s9 => [none, none, none, none]) (fun s9 => []) (fun s9 => s9) (fun s9 => ?_) (fun j301 hj301 => ?_)
  · refine x_iconst (v := 0) dL_law_301 (by decide) ?_
    exact x_zret rfl dL_law_302
  refine x_jn (σ := Mem) 314 (fun s10 => [none, none, none, none]) (fun s10 => []) (fun s10 => s10) (fun s10 => ?_) (fun j314 hj314 => ?_)
  · refine x_iconst (v := 0) dL_law_314 (by decide) ?_
    exact x_zret rfl dL_law_315
  refine x_jn (σ := Mem) 347 (fun s11 => [none, none, none, none]) (fun s11 => []) (fun s11 => s11) (fun s11 => ?_) (fun j347 hj347 => ?_)
  · refine x_iconst (v := 0) dL_law_347 (by decide) ?_
    exact x_zret rfl dL_law_348
  refine x_jn (σ := Mem) 390 (fun s12 => [none, none, none, none]) (fun s12 => []) (fun s12 => s12) (fun s12 => ?_) (fun j390 hj390 => ?_)
  · refine x_iconst (v := 0) dL_law_390 (by decide) ?_
    exact x_zret rfl dL_law_391
  refine x_jn (σ := Mem) 433 (fun s13 => [none, none, none, none]) (fun s13 => []) (fun s13 => s13) (fun s13 => ?_) (fun j433 hj433 => ?_)
  · refine x_iconst (v := 0) dL_law_433 (by decide) ?_
    exact x_zret rfl dL_law_434
  refine x_jn (σ := Mem) 486 (fun s14 => [none, none, none, none]) (fun s14 => []) (fun s14 => s14) (fun s14 => ?_) (fun j486 hj486 => ?_)
  · refine x_iconst (v := 0) dL_law_486 (by decide) ?_
    exact x_zret rfl dL_law_487
  refine x_jn (σ := Mem) 529 (fun s15 => [none, none, none, none]) (fun s15 => []) (fun s15 => s15) (fun s15 => ?_) (fun j529 hj529 => ?_)
  · refine x_iconst (v := 0) dL_law_529 (by decide) ?_
    exact x_zret rfl dL_law_530
  refine x_jn (σ := Mem) 552 (fun s16 => [none, none, none, none]) (fun s16 => []) (fun s16 => s16) (fun s16 => ?_) (fun j552 hj552 => ?_)
  · refine x_iconst (v := 0) dL_law_552 (by decide) ?_
    exact x_zret rfl dL_law_553
  refine x_jn (σ := Mem) 575 (fun s17 => [none, none, none, none]) (fun s17 => []) (fun s17 => s17) (fun s17 => ?_) (fun j575 hj575 => ?_)
  · refine x_iconst (v := 0) dL_law_575 (by decide) ?_
    exact x_zret rfl dL_law_576
  refine x_jn (σ := Mem) 618 (fun s18 => [none, none, none, none]) (fun s18 => []) (fun s18 => s18) (fun s18 => ?_) (fun j618 hj618 => ?_)
  · refine x_iconst (v := 0) dL_law_618 (by decide) ?_
    exact x_zret rfl dL_law_619
  refine x_jn (σ := Mem) 641 (fun s19 => [none, none, none, none]) (fun s19 => []) (fun s19 => s19) (fun s19 => ?_) (fun j641 hj641 => ?_)
  · refine x_iconst (v := 0) dL_law_641 (by decide) ?_
    exact x_zret rfl dL_law_642
  refine x_jn (σ := Mem) 684 (fun s20 => [none, none, none, none]) (fun s20 => []) (fun s20 => s20) (fun s20 => ?_) (fun j684 hj684 => ?_)
  · refine x_iconst (v := 0) dL_law_684 (by decide) ?_
    exact x_zret rfl dL_law_685
  refine x_jn (σ := Mem) 727 (fun s21 => [none, none, none, none]) (fun s21 => []) (fun s21 => s21) (fun s21 => ?_) (fun j727 hj727 => ?_)
  · refine x_iconst (v := 0) dL_law_727 (by decide) ?_
    exact x_zret rfl dL_law_728
  refine x_jn (σ := Mem) 760 (fun s22 => [none, none, none, none]) (fun s22 => []) (fun s22 => s22) (fun s22 => ?_) (fun j760 hj760 => ?_)
  · refine x_iconst (v := 0) dL_law_760 (by decide) ?_
    exact x_zret rfl dL_law_761
  refine x_jn (σ := Mem) 783 (fun s23 => [none, none, none, none]) (fun s23 => []) (fun s23 => s23) (fun s23 => ?_) (fun j783 hj783 => ?_)
  · refine x_iconst (v := 0) dL_law_783 (by decide) ?_
    exact x_zret rfl dL_law_784
  refine x_jn (σ := Mem) 816 (fun s24 => [none, none, none, none]) (fun s24 => []) (fun s24 => s24) (fun s24 => ?_) (fun j816 hj816 => ?_)
  · refine x_iconst (v := 0) dL_law_816 (by decide) ?_
    exact x_zret rfl dL_law_817
  refine x_jn (σ := Mem) 895 (fun s25 => [none, none, none, none]) (fun s25 => []) (fun s25 => s25) (fun s25 => ?_) (fun j895 hj895 => ?_)
  · refine x_iconst (v := 0) dL_law_895 (by decide) ?_
    exact x_zret rfl dL_law_896
  refine x_jn (σ := Mem) 918 (fun s26 => [none, none, none, none]) (fun s26 => []) (fun s26 => s26) (fun s26 => ?_) (fun j918 hj918 => ?_)
  · refine x_iconst (v := 0) dL_law_918 (by decide) ?_
    exact x_zret rfl dL_law_919
  refine x_jn (σ := Mem) 961 (fun s27 => [none, none, none, none]) (fun s27 => []) (fun s27 => s27) (fun s27 => ?_) (fun j961 hj961 => ?_)
  · refine x_iconst (v := 0) dL_law_961 (by decide) ?_
    exact x_zret rfl dL_law_962
  refine x_jn (σ := Mem) 1004 (fun s28 => [none, none, none, none]) (fun s28 => []) (fun s28 => s28) (fun s28 => ?_) (fun j1004 hj1004 => ?_)
  · refine x_iconst (v := 0) dL_law_1004 (by decide) ?_
    exact x_zret rfl dL_law_1005
  refine x_jn (σ := Mem) 1027 (fun s29 => [none, none, none, none]) (fun s29 => []) (fun s29 => s29) (fun s29 => ?_) (fun j1027 hj1027 => ?_)
  · refine x_iconst (v := 0) dL_law_1027 (by decide) ?_
    exact x_zret rfl dL_law_1028
  refine x_jn (σ := Mem) 1070 (fun s30 => [none, none, none, none]) (fun s30 => []) (fun s30 => s30) (fun s30 => ?_) (fun j1070 hj1070 => ?_)
  · refine x_iconst (v := 0) dL_law_1070 (by decide) ?_
    exact x_zret rfl dL_law_1071
  refine x_jn (σ := Mem) 1103 (fun s31 => [none, none, none, none]) (fun s31 => []) (fun s31 => s31) (fun s31 => ?_) (fun j1103 hj1103 => ?_)
  · refine x_iconst (v := 0) dL_law_1103 (by decide) ?_
    exact x_zret rfl dL_law_1104
  refine x_jn (σ := Mem) 1146 (fun s32 => [none, none, none, none]) (fun s32 => []) (fun s32 => s32) (fun s32 => ?_) (fun j1146 hj1146 => ?_)
  · refine x_iconst (v := 0) dL_law_1146 (by decide) ?_
    exact x_zret rfl dL_law_1147
  refine x_jn (σ := Mem) 1169 (fun s33 => [none, none, none, none]) (fun s33 => []) (fun s33 => s33) (fun s33 => ?_) (fun j1169 hj1169 => ?_)
  · refine x_iconst (v := 0) dL_law_1169 (by decide) ?_
    exact x_zret rfl dL_law_1170
  refine x_jn (σ := Mem) 1202 (fun s34 => [none, none, none, none]) (fun s34 => []) (fun s34 => s34) (fun s34 => ?_) (fun j1202 hj1202 => ?_)
  · refine x_iconst (v := 0) dL_law_1202 (by decide) ?_
    exact x_zret rfl dL_law_1203
  refine x_jn (σ := Mem) 1225 (fun s35 => [none, none, none, none]) (fun s35 => []) (fun s35 => s35) (fun s35 => ?_) (fun j1225 hj1225 => ?_)
  · refine x_iconst (v := 0) dL_law_1225 (by decide) ?_
    exact x_zret rfl dL_law_1226
  refine x_jn (σ := Mem) 1300 (fun s36 => [none, none, none, none]) (fun s36 => []) (fun s36 => s36) (fun s36 => ?_) (fun j1300 hj1300 => ?_)
  · refine x_iconst (v := 0) dL_law_1300 (by decide) ?_
    exact x_zret rfl dL_law_1301
  refine x_jn (σ := Mem) 1323 (fun s37 => [none, none, none, none]) (fun s37 => []) (fun s37 => s37) (fun s37 => ?_) (fun j1323 hj1323 => ?_)
  · refine x_iconst (v := 0) dL_law_1323 (by decide) ?_
    exact x_zret rfl dL_law_1324
  refine x_jn (σ := Mem) 1356 (fun s38 => [none, none, none, none]) (fun s38 => []) (fun s38 => s38) (fun s38 => ?_) (fun j1356 hj1356 => ?_)
  · refine x_iconst (v := 0) dL_law_1356 (by decide) ?_
    exact x_zret rfl dL_law_1357
  refine x_jn (σ := Mem) 1389 (fun s39 => [none, none, none, none]) (fun s39 => []) (fun s39 => s39) (fun s39 => ?_) (fun j1389 hj1389 => ?_)
  · refine x_iconst (v := 0) dL_law_1389 (by decide) ?_
    exact x_zret rfl dL_law_1390
  refine x_jn (σ := Mem) 1412 (fun s40 => [none, none, none, none]) (fun s40 => []) (fun s40 => s40) (fun s40 => ?_) (fun j1412 hj1412 => ?_)
  · refine x_iconst (v := 0) dL_law_1412 (by decide) ?_
    exact x_zret rfl dL_law_1413
  refine x_jn (σ := Mem) 1445 (fun s41 => [none, none, none, none]) (fun s41 => []) (fun s41 => s41) (fun s41 => ?_) (fun j1445 hj1445 => ?_)
  · refine x_iconst (v := 0) dL_law_1445 (by decide) ?_
    exact x_zret rfl dL_law_1446
  refine x_jn (σ := Mem) 1468 (fun s42 => [none, none, none, none]) (fun s42 => []) (fun s42 => s42) (fun s42 => ?_) (fun j1468 hj1468 => ?_)
  · refine x_iconst (v := 0) dL_law_1468 (by decide) ?_
    exact x_zret rfl dL_law_1469
  refine x_jn (σ := Mem) 1501 (fun s43 => [none, none, none, none]) (fun s43 => []) (fun s43 => s43) (fun s43 => ?_) (fun j1501 hj1501 => ?_)
  · refine x_iconst (v := 0) dL_law_1501 (by decide) ?_
    exact x_zret rfl dL_law_1502
  refine x_jn (σ := Mem) 1534 (fun s44 => [none, none, none, none]) (fun s44 => []) (fun s44 => s44) (fun s44 => ?_) (fun j1534 hj1534 => ?_)
  · refine x_iconst (v := 0) dL_law_1534 (by decide) ?_
    exact x_zret rfl dL_law_1535
  refine x_jn (σ := Mem) 1567 (fun s45 => [none, none, none, none]) (fun s45 => []) (fun s45 => s45) (fun s45 => ?_) (fun j1567 hj1567 => ?_)
  · refine x_iconst (v := 0) dL_law_1567 (by decide) ?_
    exact x_zret rfl dL_law_1568
  refine x_jn (σ := Mem) 1575 (fun s46 => [none, none, none, none]) (fun s46 => []) (fun s46 => s46) (fun s46 => ?_) (fun j1575 hj1575 => ?_)
  · refine x_iconst (v := 1) dL_law_1575 (by decide) ?_
    exact x_zret rfl dL_law_1576
  refine x_weak (by exact ⟨rfl, ⟨rfl, ⟨rfl, ⟨rfl, trivial⟩⟩⟩⟩) (x_lp (σ := Int32 × Mem) 18 (fun s47 => [some (va_rf a0), some (va_rf x1), some (va_rf x4), some (.int s47.1)]) (fun s47 => []) (fun s47 => s47.2) (fun s47 j18 hj18 => ?_) 4294967296 ((0 : Int32), M6))
  · refine x_iload_n dL_law_18 rfl ?_
    refine x_aload_n dL_law_19 rfl ?_
    refine x_alen dL_law_20 (fun x48 => ?_)
    refine x_bipush (v := 7) dL_law_21 (by decide) ?_
    refine x_isub dL_law_23 ?_
    refine x_icmp_gt (tgt := 1575) dL_law_24 (by decide) (fun _ => ?_) (fun _ => ?_)
    · exact x_weak (by exact trivial) (hj1575 s47.2)
    · refine x_aload_n dL_law_27 rfl ?_
      refine x_iload_n dL_law_28 rfl ?_
      refine x_iald dL_law_29 (fun x49 => ?_)
      refine x_bipush (v := 63) dL_law_30 (by decide) ?_
      refine x_iand dL_law_32 ?_
      refine x_jn (σ := Mem) 1569 (fun s50 => [some (va_rf a0), some (va_rf x1), some (va_rf x4), some (.int s47.1)]) (fun s50 => []) (fun s50 => s50) (fun s50 => ?_) (fun j1569 hj1569 => ?_)
      · refine x_iincN (v := 7) (lo' := fun x51 => [some (va_rf a0), some (va_rf x1), some (va_rf x4), some (.int x51)]) (by decide) dL_law_1569 rfl (Nat.le_of_ble_eq_true rfl) (xok_r rfl) (fun _ => rfl) (fun x51 => ?_)
        refine x_goto (tgt := 18) dL_law_1572 (by decide) ?_
        exact x_weak (by exact ⟨rfl, ⟨rfl, ⟨rfl, ⟨rfl, trivial⟩⟩⟩⟩) (hj18 (x51, s50))
      refine x_table (tgt := 1569) dL_law_33 [(0, 204), (1, 267), (2, 290), (3, 303), (4, 316), (5, 349), (6, 392), (7, 435), (8, 488), (9, 531), (10, 554), (11, 577), (12, 620), (13, 643), (14, 686), (15, 729), (16, 762), (17, 785), (18, 818), (19, 897), (20, 920), (21, 963), (22, 1006), (23, 1029), (24, 1072), (25, 1105), (26, 1148), (27, 1171), (28, 1204), (29, 1227), (30, 1302), (31, 1325), (32, 1358), (33, 1391), (34, 1414), (35, 1447), (36, 1470), (37, 1503), (38, 1536)] (by decide +kernel) (by decide +kernel) (by decide) ?_ ?_
      · refine swG_d (by decide) ?_ (swG_d (by decide) ?_ (swG_d (by decide) ?_ (swG_d (by decide) ?_ (swG_d (by decide) ?_ (swG_d (by decide) ?_ (swG_d (by decide) ?_ (swG_d (by decide) ?_ (swG_d (by decide) ?_ (swG_d (by decide) ?_ (swG_d (by decide) ?_ (swG_d (by decide) ?_ (swG_d (by decide) ?_ (swG_d (by decide) ?_ (swG_d (by decide) ?_ (swG_d (by decide) ?_ (swG_d (by decide) ?_ (swG_d (by decide) ?_ (swG_d (by decide) ?_ (swG_d (by decide) ?_ (swG_d (by decide) ?_ (swG_d (by decide) ?_ (swG_d (by decide) ?_ (swG_d (by decide) ?_ (swG_d (by decide) ?_ (swG_d (by decide) ?_ (swG_d (by decide) ?_ (swG_d (by decide) ?_ (swG_d (by decide) ?_ (swG_d (by decide) ?_ (swG_d (by decide) ?_ (swG_d (by decide) ?_ (swG_d (by decide) ?_ (swG_d (by decide) ?_ (swG_d (by decide) ?_ (swG_d (by decide) ?_ (swG_d (by decide) ?_ (swG_d (by decide) ?_ (swG_d (by decide) ?_ (trivial)))))))))))))))))))))))))))))))))))))))
        · refine x_aload_n dL_law_204 rfl ?_
          refine x_aload_n dL_law_205 rfl ?_
          refine x_iload_n dL_law_206 rfl ?_
          refine x_iconst (v := 1) dL_law_207 (by decide) ?_
          refine x_iadd dL_law_208 ?_
          refine x_iald dL_law_209 (fun x52 => ?_)
          refine x_aload_n dL_law_210 rfl ?_
          refine x_iload_n dL_law_211 rfl ?_
          refine x_iconst (v := 2) dL_law_212 (by decide) ?_
          refine x_iadd dL_law_213 ?_
          refine x_iald dL_law_214 (fun x53 => ?_)
          refine x_aload_n dL_law_215 rfl ?_
          refine x_iload_n dL_law_216 rfl ?_
          refine x_iconst (v := 3) dL_law_217 (by decide) ?_
          refine x_iadd dL_law_218 ?_
          refine x_iald dL_law_219 (fun x54 => ?_)
          refine x_aload_n dL_law_220 rfl ?_
          refine x_iload_n dL_law_221 rfl ?_
          refine x_iconst (v := 4) dL_law_222 (by decide) ?_
          refine x_iadd dL_law_223 ?_
          refine x_iald dL_law_224 (fun x55 => ?_)
          refine x_aload_n dL_law_225 rfl ?_
          refine x_iload_n dL_law_226 rfl ?_
          refine x_iconst (v := 5) dL_law_227 (by decide) ?_
          refine x_iadd dL_law_228 ?_
          refine x_iald dL_law_229 (fun x56 => ?_)
          refine cmL_13 rfl hs (Nat.le_of_ble_eq_true rfl) dL_law_230 (fun x58 M57 => ?_)
          refine x_aload_n dL_law_233 rfl ?_
          refine x_aload_n dL_law_234 rfl ?_
          refine x_iload_n dL_law_235 rfl ?_
          refine x_iconst (v := 1) dL_law_236 (by decide) ?_
          refine x_iadd dL_law_237 ?_
          refine x_iald dL_law_238 (fun x59 => ?_)
          refine x_aload_n dL_law_239 rfl ?_
          refine x_iload_n dL_law_240 rfl ?_
          refine x_iconst (v := 2) dL_law_241 (by decide) ?_
          refine x_iadd dL_law_242 ?_
          refine x_iald dL_law_243 (fun x60 => ?_)
          refine x_aload_n dL_law_244 rfl ?_
          refine x_iload_n dL_law_245 rfl ?_
          refine x_iconst (v := 3) dL_law_246 (by decide) ?_
          refine x_iadd dL_law_247 ?_
          refine x_iald dL_law_248 (fun x61 => ?_)
          refine x_aload_n dL_law_249 rfl ?_
          refine x_iload_n dL_law_250 rfl ?_
          refine x_iconst (v := 4) dL_law_251 (by decide) ?_
          refine x_iadd dL_law_252 ?_
          refine x_iald dL_law_253 (fun x62 => ?_)
          refine x_aload_n dL_law_254 rfl ?_
          refine x_iload_n dL_law_255 rfl ?_
          refine x_iconst (v := 5) dL_law_256 (by decide) ?_
          refine x_iadd dL_law_257 ?_
          refine x_iald dL_law_258 (fun x63 => ?_)
          refine cmL_17 rfl hs (Nat.le_of_ble_eq_true rfl) dL_law_259 (fun x65 M64 => ?_)
          refine x_icmp_eq (tgt := 1569) dL_law_262 (by decide) (fun _ => ?_) (fun _ => ?_)
          · exact x_weak (by exact ⟨rfl, ⟨rfl, ⟨rfl, ⟨rfl, trivial⟩⟩⟩⟩) (hj1569 M64)
          · exact x_weak (by exact trivial) (hj265 M64)
        · refine x_aload_n dL_law_267 rfl ?_
          refine x_aload_n dL_law_268 rfl ?_
          refine x_iload_n dL_law_269 rfl ?_
          refine x_iconst (v := 1) dL_law_270 (by decide) ?_
          refine x_iadd dL_law_271 ?_
          refine x_iald dL_law_272 (fun x66 => ?_)
          refine cmL_18 rfl hs (Nat.le_of_ble_eq_true rfl) dL_law_273 (fun x68 M67 => ?_)
          refine x_aload_n dL_law_276 rfl ?_
          refine x_aload_n dL_law_277 rfl ?_
          refine x_iload_n dL_law_278 rfl ?_
          refine x_iconst (v := 1) dL_law_279 (by decide) ?_
          refine x_iadd dL_law_280 ?_
          refine x_iald dL_law_281 (fun x69 => ?_)
          refine cmL_22 rfl hs (Nat.le_of_ble_eq_true rfl) dL_law_282 (fun x71 M70 => ?_)
          refine x_icmp_eq (tgt := 1569) dL_law_285 (by decide) (fun _ => ?_) (fun _ => ?_)
          · exact x_weak (by exact ⟨rfl, ⟨rfl, ⟨rfl, ⟨rfl, trivial⟩⟩⟩⟩) (hj1569 M70)
          · exact x_weak (by exact trivial) (hj288 M70)
        · refine x_aload_n dL_law_290 rfl ?_
          refine cmL_23 rfl hs (Nat.le_of_ble_eq_true rfl) dL_law_291 (fun x73 M72 => ?_)
          refine x_aload_n dL_law_294 rfl ?_
          refine cmL_27 rfl hs (Nat.le_of_ble_eq_true rfl) dL_law_295 (fun x75 M74 => ?_)
          refine x_icmp_eq (tgt := 1569) dL_law_298 (by decide) (fun _ => ?_) (fun _ => ?_)
          · exact x_weak (by exact ⟨rfl, ⟨rfl, ⟨rfl, ⟨rfl, trivial⟩⟩⟩⟩) (hj1569 M74)
          · exact x_weak (by exact trivial) (hj301 M74)
        · refine x_aload_n dL_law_303 rfl ?_
          refine cmL_28 rfl hs (Nat.le_of_ble_eq_true rfl) dL_law_304 (fun x77 M76 => ?_)
          refine x_aload_n dL_law_307 rfl ?_
          refine cmL_31 rfl hs (Nat.le_of_ble_eq_true rfl) dL_law_308 (fun x79 M78 => ?_)
          refine x_icmp_eq (tgt := 1569) dL_law_311 (by decide) (fun _ => ?_) (fun _ => ?_)
          · exact x_weak (by exact ⟨rfl, ⟨rfl, ⟨rfl, ⟨rfl, trivial⟩⟩⟩⟩) (hj1569 M78)
          · exact x_weak (by exact trivial) (hj314 M78)
        · refine x_aload_n dL_law_316 rfl ?_
          refine x_aload_n dL_law_317 rfl ?_
          refine x_iload_n dL_law_318 rfl ?_
          refine x_iconst (v := 1) dL_law_319 (by decide) ?_
          refine x_iadd dL_law_320 ?_
          refine x_iald dL_law_321 (fun x80 => ?_)
          refine x_aload_n dL_law_322 rfl ?_
          refine x_iload_n dL_law_323 rfl ?_
          refine x_iconst (v := 2) dL_law_324 (by decide) ?_
          refine x_iadd dL_law_325 ?_
          refine x_iald dL_law_326 (fun x81 => ?_)
          refine cmL_32 rfl hs (Nat.le_of_ble_eq_true rfl) dL_law_327 (fun x83 M82 => ?_)
          refine x_aload_n dL_law_330 rfl ?_
          refine x_aload_n dL_law_331 rfl ?_
          refine x_iload_n dL_law_332 rfl ?_
          refine x_iconst (v := 1) dL_law_333 (by decide) ?_
          refine x_iadd dL_law_334 ?_
          refine x_iald dL_law_335 (fun x84 => ?_)
          refine x_aload_n dL_law_336 rfl ?_
          refine x_iload_n dL_law_337 rfl ?_
          refine x_iconst (v := 2) dL_law_338 (by decide) ?_
          refine x_iadd dL_law_339 ?_
          refine x_iald dL_law_340 (fun x85 => ?_)
          refine cmL_36 rfl hs (Nat.le_of_ble_eq_true rfl) dL_law_341 (fun x87 M86 => ?_)
          refine x_icmp_eq (tgt := 1569) dL_law_344 (by decide) (fun _ => ?_) (fun _ => ?_)
          · exact x_weak (by exact ⟨rfl, ⟨rfl, ⟨rfl, ⟨rfl, trivial⟩⟩⟩⟩) (hj1569 M86)
          · exact x_weak (by exact trivial) (hj347 M86)
        · refine x_aload_n dL_law_349 rfl ?_
          refine x_aload_n dL_law_350 rfl ?_
          refine x_iload_n dL_law_351 rfl ?_
          refine x_iconst (v := 1) dL_law_352 (by decide) ?_
          refine x_iadd dL_law_353 ?_
          refine x_iald dL_law_354 (fun x88 => ?_)
          refine x_aload_n dL_law_355 rfl ?_
          refine x_iload_n dL_law_356 rfl ?_
          refine x_iconst (v := 2) dL_law_357 (by decide) ?_
          refine x_iadd dL_law_358 ?_
          refine x_iald dL_law_359 (fun x89 => ?_)
          refine x_aload_n dL_law_360 rfl ?_
          refine x_iload_n dL_law_361 rfl ?_
          refine x_iconst (v := 3) dL_law_362 (by decide) ?_
          refine x_iadd dL_law_363 ?_
          refine x_iald dL_law_364 (fun x90 => ?_)
          refine cmL_37 rfl hs (Nat.le_of_ble_eq_true rfl) dL_law_365 (fun x92 M91 => ?_)
          refine x_aload_n dL_law_368 rfl ?_
          refine x_aload_n dL_law_369 rfl ?_
          refine x_iload_n dL_law_370 rfl ?_
          refine x_iconst (v := 1) dL_law_371 (by decide) ?_
          refine x_iadd dL_law_372 ?_
          refine x_iald dL_law_373 (fun x93 => ?_)
          refine x_aload_n dL_law_374 rfl ?_
          refine x_iload_n dL_law_375 rfl ?_
          refine x_iconst (v := 2) dL_law_376 (by decide) ?_
          refine x_iadd dL_law_377 ?_
          refine x_iald dL_law_378 (fun x94 => ?_)
          refine x_aload_n dL_law_379 rfl ?_
          refine x_iload_n dL_law_380 rfl ?_
          refine x_iconst (v := 3) dL_law_381 (by decide) ?_
          refine x_iadd dL_law_382 ?_
          refine x_iald dL_law_383 (fun x95 => ?_)
          refine cmL_41 rfl hs (Nat.le_of_ble_eq_true rfl) dL_law_384 (fun x97 M96 => ?_)
          refine x_icmp_eq (tgt := 1569) dL_law_387 (by decide) (fun _ => ?_) (fun _ => ?_)
          · exact x_weak (by exact ⟨rfl, ⟨rfl, ⟨rfl, ⟨rfl, trivial⟩⟩⟩⟩) (hj1569 M96)
          · exact x_weak (by exact trivial) (hj390 M96)
        · refine x_aload_n dL_law_392 rfl ?_
          refine x_aload_n dL_law_393 rfl ?_
          refine x_iload_n dL_law_394 rfl ?_
          refine x_iconst (v := 1) dL_law_395 (by decide) ?_
          refine x_iadd dL_law_396 ?_
          refine x_iald dL_law_397 (fun x98 => ?_)
          refine x_aload_n dL_law_398 rfl ?_
          refine x_iload_n dL_law_399 rfl ?_
          refine x_iconst (v := 2) dL_law_400 (by decide) ?_
          refine x_iadd dL_law_401 ?_
          refine x_iald dL_law_402 (fun x99 => ?_)
          refine x_aload_n dL_law_403 rfl ?_
          refine x_iload_n dL_law_404 rfl ?_
          refine x_iconst (v := 3) dL_law_405 (by decide) ?_
          refine x_iadd dL_law_406 ?_
          refine x_iald dL_law_407 (fun x100 => ?_)
          refine cmL_42 rfl hs (Nat.le_of_ble_eq_true rfl) dL_law_408 (fun x102 M101 => ?_)
          refine x_aload_n dL_law_411 rfl ?_
          refine x_aload_n dL_law_412 rfl ?_
          refine x_iload_n dL_law_413 rfl ?_
          refine x_iconst (v := 1) dL_law_414 (by decide) ?_
          refine x_iadd dL_law_415 ?_
          refine x_iald dL_law_416 (fun x103 => ?_)
          refine x_aload_n dL_law_417 rfl ?_
          refine x_iload_n dL_law_418 rfl ?_
          refine x_iconst (v := 2) dL_law_419 (by decide) ?_
          refine x_iadd dL_law_420 ?_
          refine x_iald dL_law_421 (fun x104 => ?_)
          refine x_aload_n dL_law_422 rfl ?_
          refine x_iload_n dL_law_423 rfl ?_
          refine x_iconst (v := 3) dL_law_424 (by decide) ?_
          refine x_iadd dL_law_425 ?_
          refine x_iald dL_law_426 (fun x105 => ?_)
          refine cmL_45 rfl hs (Nat.le_of_ble_eq_true rfl) dL_law_427 (fun x107 M106 => ?_)
          refine x_icmp_eq (tgt := 1569) dL_law_430 (by decide) (fun _ => ?_) (fun _ => ?_)
          · exact x_weak (by exact ⟨rfl, ⟨rfl, ⟨rfl, ⟨rfl, trivial⟩⟩⟩⟩) (hj1569 M106)
          · exact x_weak (by exact trivial) (hj433 M106)
        · refine x_aload_n dL_law_435 rfl ?_
          refine x_aload_n dL_law_436 rfl ?_
          refine x_iload_n dL_law_437 rfl ?_
          refine x_iconst (v := 1) dL_law_438 (by decide) ?_
          refine x_iadd dL_law_439 ?_
          refine x_iald dL_law_440 (fun x108 => ?_)
          refine x_aload_n dL_law_441 rfl ?_
          refine x_iload_n dL_law_442 rfl ?_
          refine x_iconst (v := 2) dL_law_443 (by decide) ?_
          refine x_iadd dL_law_444 ?_
          refine x_iald dL_law_445 (fun x109 => ?_)
          refine x_aload_n dL_law_446 rfl ?_
          refine x_iload_n dL_law_447 rfl ?_
          refine x_iconst (v := 3) dL_law_448 (by decide) ?_
          refine x_iadd dL_law_449 ?_
          refine x_iald dL_law_450 (fun x110 => ?_)
          refine x_aload_n dL_law_451 rfl ?_
          refine x_iload_n dL_law_452 rfl ?_
          refine x_iconst (v := 4) dL_law_453 (by decide) ?_
          refine x_iadd dL_law_454 ?_
          refine x_iald dL_law_455 (fun x111 => ?_)
          refine cmL_46 rfl hs (Nat.le_of_ble_eq_true rfl) dL_law_456 (fun x113 M112 => ?_)
          refine x_aload_n dL_law_459 rfl ?_
          refine x_aload_n dL_law_460 rfl ?_
          refine x_iload_n dL_law_461 rfl ?_
          refine x_iconst (v := 1) dL_law_462 (by decide) ?_
          refine x_iadd dL_law_463 ?_
          refine x_iald dL_law_464 (fun x114 => ?_)
          refine x_aload_n dL_law_465 rfl ?_
          refine x_iload_n dL_law_466 rfl ?_
          refine x_iconst (v := 2) dL_law_467 (by decide) ?_
          refine x_iadd dL_law_468 ?_
          refine x_iald dL_law_469 (fun x115 => ?_)
          refine x_aload_n dL_law_470 rfl ?_
          refine x_iload_n dL_law_471 rfl ?_
          refine x_iconst (v := 3) dL_law_472 (by decide) ?_
          refine x_iadd dL_law_473 ?_
          refine x_iald dL_law_474 (fun x116 => ?_)
          refine x_aload_n dL_law_475 rfl ?_
          refine x_iload_n dL_law_476 rfl ?_
          refine x_iconst (v := 4) dL_law_477 (by decide) ?_
          refine x_iadd dL_law_478 ?_
          refine x_iald dL_law_479 (fun x117 => ?_)
          refine cmL_50 rfl hs (Nat.le_of_ble_eq_true rfl) dL_law_480 (fun x119 M118 => ?_)
          refine x_icmp_eq (tgt := 1569) dL_law_483 (by decide) (fun _ => ?_) (fun _ => ?_)
          · exact x_weak (by exact ⟨rfl, ⟨rfl, ⟨rfl, ⟨rfl, trivial⟩⟩⟩⟩) (hj1569 M118)
          · exact x_weak (by exact trivial) (hj486 M118)
        · refine x_aload_n dL_law_488 rfl ?_
          refine x_aload_n dL_law_489 rfl ?_
          refine x_iload_n dL_law_490 rfl ?_
          refine x_iconst (v := 1) dL_law_491 (by decide) ?_
          refine x_iadd dL_law_492 ?_
          refine x_iald dL_law_493 (fun x120 => ?_)
          refine x_aload_n dL_law_494 rfl ?_
          refine x_iload_n dL_law_495 rfl ?_
          refine x_iconst (v := 2) dL_law_496 (by decide) ?_
          refine x_iadd dL_law_497 ?_
          refine x_iald dL_law_498 (fun x121 => ?_)
          refine x_aload_n dL_law_499 rfl ?_
          refine x_iload_n dL_law_500 rfl ?_
          refine x_iconst (v := 3) dL_law_501 (by decide) ?_
          refine x_iadd dL_law_502 ?_
          refine x_iald dL_law_503 (fun x122 => ?_)
          refine cmL_51 rfl hs (Nat.le_of_ble_eq_true rfl) dL_law_504 (fun x124 M123 => ?_)
          refine x_aload_n dL_law_507 rfl ?_
          refine x_aload_n dL_law_508 rfl ?_
          refine x_iload_n dL_law_509 rfl ?_
          refine x_iconst (v := 1) dL_law_510 (by decide) ?_
          refine x_iadd dL_law_511 ?_
          refine x_iald dL_law_512 (fun x125 => ?_)
          refine x_aload_n dL_law_513 rfl ?_
          refine x_iload_n dL_law_514 rfl ?_
          refine x_iconst (v := 2) dL_law_515 (by decide) ?_
          refine x_iadd dL_law_516 ?_
          refine x_iald dL_law_517 (fun x126 => ?_)
          refine x_aload_n dL_law_518 rfl ?_
          refine x_iload_n dL_law_519 rfl ?_
          refine x_iconst (v := 3) dL_law_520 (by decide) ?_
          refine x_iadd dL_law_521 ?_
          refine x_iald dL_law_522 (fun x127 => ?_)
          refine cmL_54 rfl hs (Nat.le_of_ble_eq_true rfl) dL_law_523 (fun x129 M128 => ?_)
          refine x_icmp_eq (tgt := 1569) dL_law_526 (by decide) (fun _ => ?_) (fun _ => ?_)
          · exact x_weak (by exact ⟨rfl, ⟨rfl, ⟨rfl, ⟨rfl, trivial⟩⟩⟩⟩) (hj1569 M128)
          · exact x_weak (by exact trivial) (hj529 M128)
        · refine x_aload_n dL_law_531 rfl ?_
          refine x_aload_n dL_law_532 rfl ?_
          refine x_iload_n dL_law_533 rfl ?_
          refine x_iconst (v := 1) dL_law_534 (by decide) ?_
          refine x_iadd dL_law_535 ?_
          refine x_iald dL_law_536 (fun x130 => ?_)
          refine cmL_55 rfl hs (Nat.le_of_ble_eq_true rfl) dL_law_537 (fun x132 M131 => ?_)
          refine x_aload_n dL_law_540 rfl ?_
          refine x_aload_n dL_law_541 rfl ?_
          refine x_iload_n dL_law_542 rfl ?_
          refine x_iconst (v := 1) dL_law_543 (by decide) ?_
          refine x_iadd dL_law_544 ?_
          refine x_iald dL_law_545 (fun x133 => ?_)
          refine cmL_58 rfl hs (Nat.le_of_ble_eq_true rfl) dL_law_546 (fun x135 M134 => ?_)
          refine x_icmp_eq (tgt := 1569) dL_law_549 (by decide) (fun _ => ?_) (fun _ => ?_)
          · exact x_weak (by exact ⟨rfl, ⟨rfl, ⟨rfl, ⟨rfl, trivial⟩⟩⟩⟩) (hj1569 M134)
          · exact x_weak (by exact trivial) (hj552 M134)
        · refine x_aload_n dL_law_554 rfl ?_
          refine x_aload_n dL_law_555 rfl ?_
          refine x_iload_n dL_law_556 rfl ?_
          refine x_iconst (v := 1) dL_law_557 (by decide) ?_
          refine x_iadd dL_law_558 ?_
          refine x_iald dL_law_559 (fun x136 => ?_)
          refine cmL_59 rfl hs (Nat.le_of_ble_eq_true rfl) dL_law_560 (fun x138 M137 => ?_)
          refine x_aload_n dL_law_563 rfl ?_
          refine x_aload_n dL_law_564 rfl ?_
          refine x_iload_n dL_law_565 rfl ?_
          refine x_iconst (v := 1) dL_law_566 (by decide) ?_
          refine x_iadd dL_law_567 ?_
          refine x_iald dL_law_568 (fun x139 => ?_)
          refine cmL_62 rfl hs (Nat.le_of_ble_eq_true rfl) dL_law_569 (fun x141 M140 => ?_)
          refine x_icmp_eq (tgt := 1569) dL_law_572 (by decide) (fun _ => ?_) (fun _ => ?_)
          · exact x_weak (by exact ⟨rfl, ⟨rfl, ⟨rfl, ⟨rfl, trivial⟩⟩⟩⟩) (hj1569 M140)
          · exact x_weak (by exact trivial) (hj575 M140)
        · refine x_aload_n dL_law_577 rfl ?_
          refine x_aload_n dL_law_578 rfl ?_
          refine x_iload_n dL_law_579 rfl ?_
          refine x_iconst (v := 1) dL_law_580 (by decide) ?_
          refine x_iadd dL_law_581 ?_
          refine x_iald dL_law_582 (fun x142 => ?_)
          refine x_aload_n dL_law_583 rfl ?_
          refine x_iload_n dL_law_584 rfl ?_
          refine x_iconst (v := 2) dL_law_585 (by decide) ?_
          refine x_iadd dL_law_586 ?_
          refine x_iald dL_law_587 (fun x143 => ?_)
          refine x_aload_n dL_law_588 rfl ?_
          refine x_iload_n dL_law_589 rfl ?_
          refine x_iconst (v := 3) dL_law_590 (by decide) ?_
          refine x_iadd dL_law_591 ?_
          refine x_iald dL_law_592 (fun x144 => ?_)
          refine cmL_63 rfl hs (Nat.le_of_ble_eq_true rfl) dL_law_593 (fun x146 M145 => ?_)
          refine x_aload_n dL_law_596 rfl ?_
          refine x_aload_n dL_law_597 rfl ?_
          refine x_iload_n dL_law_598 rfl ?_
          refine x_iconst (v := 1) dL_law_599 (by decide) ?_
          refine x_iadd dL_law_600 ?_
          refine x_iald dL_law_601 (fun x147 => ?_)
          refine x_aload_n dL_law_602 rfl ?_
          refine x_iload_n dL_law_603 rfl ?_
          refine x_iconst (v := 2) dL_law_604 (by decide) ?_
          refine x_iadd dL_law_605 ?_
          refine x_iald dL_law_606 (fun x148 => ?_)
          refine x_aload_n dL_law_607 rfl ?_
          refine x_iload_n dL_law_608 rfl ?_
          refine x_iconst (v := 3) dL_law_609 (by decide) ?_
          refine x_iadd dL_law_610 ?_
          refine x_iald dL_law_611 (fun x149 => ?_)
          refine cmL_66 rfl hs (Nat.le_of_ble_eq_true rfl) dL_law_612 (fun x151 M150 => ?_)
          refine x_icmp_eq (tgt := 1569) dL_law_615 (by decide) (fun _ => ?_) (fun _ => ?_)
          · exact x_weak (by exact ⟨rfl, ⟨rfl, ⟨rfl, ⟨rfl, trivial⟩⟩⟩⟩) (hj1569 M150)
          · exact x_weak (by exact trivial) (hj618 M150)
        · refine x_aload_n dL_law_620 rfl ?_
          refine x_aload_n dL_law_621 rfl ?_
          refine x_iload_n dL_law_622 rfl ?_
          refine x_iconst (v := 1) dL_law_623 (by decide) ?_
          refine x_iadd dL_law_624 ?_
          refine x_iald dL_law_625 (fun x152 => ?_)
          refine cmL_67 rfl hs (Nat.le_of_ble_eq_true rfl) dL_law_626 (fun x154 M153 => ?_)
          refine x_aload_n dL_law_629 rfl ?_
          refine x_aload_n dL_law_630 rfl ?_
          refine x_iload_n dL_law_631 rfl ?_
          refine x_iconst (v := 1) dL_law_632 (by decide) ?_
          refine x_iadd dL_law_633 ?_
          refine x_iald dL_law_634 (fun x155 => ?_)
          refine cmL_70 rfl hs (Nat.le_of_ble_eq_true rfl) dL_law_635 (fun x157 M156 => ?_)
          refine x_icmp_eq (tgt := 1569) dL_law_638 (by decide) (fun _ => ?_) (fun _ => ?_)
          · exact x_weak (by exact ⟨rfl, ⟨rfl, ⟨rfl, ⟨rfl, trivial⟩⟩⟩⟩) (hj1569 M156)
          · exact x_weak (by exact trivial) (hj641 M156)
        · refine x_aload_n dL_law_643 rfl ?_
          refine x_aload_n dL_law_644 rfl ?_
          refine x_iload_n dL_law_645 rfl ?_
          refine x_iconst (v := 1) dL_law_646 (by decide) ?_
          refine x_iadd dL_law_647 ?_
          refine x_iald dL_law_648 (fun x158 => ?_)
          refine x_aload_n dL_law_649 rfl ?_
          refine x_iload_n dL_law_650 rfl ?_
          refine x_iconst (v := 2) dL_law_651 (by decide) ?_
          refine x_iadd dL_law_652 ?_
          refine x_iald dL_law_653 (fun x159 => ?_)
          refine x_aload_n dL_law_654 rfl ?_
          refine x_iload_n dL_law_655 rfl ?_
          refine x_iconst (v := 3) dL_law_656 (by decide) ?_
          refine x_iadd dL_law_657 ?_
          refine x_iald dL_law_658 (fun x160 => ?_)
          refine cmL_71 rfl hs (Nat.le_of_ble_eq_true rfl) dL_law_659 (fun x162 M161 => ?_)
          refine x_aload_n dL_law_662 rfl ?_
          refine x_aload_n dL_law_663 rfl ?_
          refine x_iload_n dL_law_664 rfl ?_
          refine x_iconst (v := 1) dL_law_665 (by decide) ?_
          refine x_iadd dL_law_666 ?_
          refine x_iald dL_law_667 (fun x163 => ?_)
          refine x_aload_n dL_law_668 rfl ?_
          refine x_iload_n dL_law_669 rfl ?_
          refine x_iconst (v := 2) dL_law_670 (by decide) ?_
          refine x_iadd dL_law_671 ?_
          refine x_iald dL_law_672 (fun x164 => ?_)
          refine x_aload_n dL_law_673 rfl ?_
          refine x_iload_n dL_law_674 rfl ?_
          refine x_iconst (v := 3) dL_law_675 (by decide) ?_
          refine x_iadd dL_law_676 ?_
          refine x_iald dL_law_677 (fun x165 => ?_)
          refine cmL_74 rfl hs (Nat.le_of_ble_eq_true rfl) dL_law_678 (fun x167 M166 => ?_)
          refine x_icmp_eq (tgt := 1569) dL_law_681 (by decide) (fun _ => ?_) (fun _ => ?_)
          · exact x_weak (by exact ⟨rfl, ⟨rfl, ⟨rfl, ⟨rfl, trivial⟩⟩⟩⟩) (hj1569 M166)
          · exact x_weak (by exact trivial) (hj684 M166)
        · refine x_aload_n dL_law_686 rfl ?_
          refine x_aload_n dL_law_687 rfl ?_
          refine x_iload_n dL_law_688 rfl ?_
          refine x_iconst (v := 1) dL_law_689 (by decide) ?_
          refine x_iadd dL_law_690 ?_
          refine x_iald dL_law_691 (fun x168 => ?_)
          refine x_aload_n dL_law_692 rfl ?_
          refine x_iload_n dL_law_693 rfl ?_
          refine x_iconst (v := 2) dL_law_694 (by decide) ?_
          refine x_iadd dL_law_695 ?_
          refine x_iald dL_law_696 (fun x169 => ?_)
          refine x_aload_n dL_law_697 rfl ?_
          refine x_iload_n dL_law_698 rfl ?_
          refine x_iconst (v := 3) dL_law_699 (by decide) ?_
          refine x_iadd dL_law_700 ?_
          refine x_iald dL_law_701 (fun x170 => ?_)
          refine cmL_75 rfl hs (Nat.le_of_ble_eq_true rfl) dL_law_702 (fun x172 M171 => ?_)
          refine x_aload_n dL_law_705 rfl ?_
          refine x_aload_n dL_law_706 rfl ?_
          refine x_iload_n dL_law_707 rfl ?_
          refine x_iconst (v := 1) dL_law_708 (by decide) ?_
          refine x_iadd dL_law_709 ?_
          refine x_iald dL_law_710 (fun x173 => ?_)
          refine x_aload_n dL_law_711 rfl ?_
          refine x_iload_n dL_law_712 rfl ?_
          refine x_iconst (v := 2) dL_law_713 (by decide) ?_
          refine x_iadd dL_law_714 ?_
          refine x_iald dL_law_715 (fun x174 => ?_)
          refine x_aload_n dL_law_716 rfl ?_
          refine x_iload_n dL_law_717 rfl ?_
          refine x_iconst (v := 3) dL_law_718 (by decide) ?_
          refine x_iadd dL_law_719 ?_
          refine x_iald dL_law_720 (fun x175 => ?_)
          refine cmL_78 rfl hs (Nat.le_of_ble_eq_true rfl) dL_law_721 (fun x177 M176 => ?_)
          refine x_icmp_eq (tgt := 1569) dL_law_724 (by decide) (fun _ => ?_) (fun _ => ?_)
          · exact x_weak (by exact ⟨rfl, ⟨rfl, ⟨rfl, ⟨rfl, trivial⟩⟩⟩⟩) (hj1569 M176)
          · exact x_weak (by exact trivial) (hj727 M176)
        · refine x_aload_n dL_law_729 rfl ?_
          refine x_aload_n dL_law_730 rfl ?_
          refine x_iload_n dL_law_731 rfl ?_
          refine x_iconst (v := 1) dL_law_732 (by decide) ?_
          refine x_iadd dL_law_733 ?_
          refine x_iald dL_law_734 (fun x178 => ?_)
          refine x_aload_n dL_law_735 rfl ?_
          refine x_iload_n dL_law_736 rfl ?_
          refine x_iconst (v := 2) dL_law_737 (by decide) ?_
          refine x_iadd dL_law_738 ?_
          refine x_iald dL_law_739 (fun x179 => ?_)
          refine cmL_79 rfl hs (Nat.le_of_ble_eq_true rfl) dL_law_740 (fun x181 M180 => ?_)
          refine x_aload_n dL_law_743 rfl ?_
          refine x_aload_n dL_law_744 rfl ?_
          refine x_iload_n dL_law_745 rfl ?_
          refine x_iconst (v := 1) dL_law_746 (by decide) ?_
          refine x_iadd dL_law_747 ?_
          refine x_iald dL_law_748 (fun x182 => ?_)
          refine x_aload_n dL_law_749 rfl ?_
          refine x_iload_n dL_law_750 rfl ?_
          refine x_iconst (v := 2) dL_law_751 (by decide) ?_
          refine x_iadd dL_law_752 ?_
          refine x_iald dL_law_753 (fun x183 => ?_)
          refine cmL_82 rfl hs (Nat.le_of_ble_eq_true rfl) dL_law_754 (fun x185 M184 => ?_)
          refine x_icmp_eq (tgt := 1569) dL_law_757 (by decide) (fun _ => ?_) (fun _ => ?_)
          · exact x_weak (by exact ⟨rfl, ⟨rfl, ⟨rfl, ⟨rfl, trivial⟩⟩⟩⟩) (hj1569 M184)
          · exact x_weak (by exact trivial) (hj760 M184)
        · refine x_aload_n dL_law_762 rfl ?_
          refine x_aload_n dL_law_763 rfl ?_
          refine x_iload_n dL_law_764 rfl ?_
          refine x_iconst (v := 1) dL_law_765 (by decide) ?_
          refine x_iadd dL_law_766 ?_
          refine x_iald dL_law_767 (fun x186 => ?_)
          refine cmL_83 rfl hs (Nat.le_of_ble_eq_true rfl) dL_law_768 (fun x188 M187 => ?_)
          refine x_aload_n dL_law_771 rfl ?_
          refine x_aload_n dL_law_772 rfl ?_
          refine x_iload_n dL_law_773 rfl ?_
          refine x_iconst (v := 1) dL_law_774 (by decide) ?_
          refine x_iadd dL_law_775 ?_
          refine x_iald dL_law_776 (fun x189 => ?_)
          refine cmL_86 rfl hs (Nat.le_of_ble_eq_true rfl) dL_law_777 (fun x191 M190 => ?_)
          refine x_icmp_eq (tgt := 1569) dL_law_780 (by decide) (fun _ => ?_) (fun _ => ?_)
          · exact x_weak (by exact ⟨rfl, ⟨rfl, ⟨rfl, ⟨rfl, trivial⟩⟩⟩⟩) (hj1569 M190)
          · exact x_weak (by exact trivial) (hj783 M190)
        · refine x_aload_n dL_law_785 rfl ?_
          refine x_aload_n dL_law_786 rfl ?_
          refine x_iload_n dL_law_787 rfl ?_
          refine x_iconst (v := 1) dL_law_788 (by decide) ?_
          refine x_iadd dL_law_789 ?_
          refine x_iald dL_law_790 (fun x192 => ?_)
          refine x_aload_n dL_law_791 rfl ?_
          refine x_iload_n dL_law_792 rfl ?_
          refine x_iconst (v := 2) dL_law_793 (by decide) ?_
          refine x_iadd dL_law_794 ?_
          refine x_iald dL_law_795 (fun x193 => ?_)
          refine cmL_87 rfl hs (Nat.le_of_ble_eq_true rfl) dL_law_796 (fun x195 M194 => ?_)
          refine x_aload_n dL_law_799 rfl ?_
          refine x_aload_n dL_law_800 rfl ?_
          refine x_iload_n dL_law_801 rfl ?_
          refine x_iconst (v := 1) dL_law_802 (by decide) ?_
          refine x_iadd dL_law_803 ?_
          refine x_iald dL_law_804 (fun x196 => ?_)
          refine x_aload_n dL_law_805 rfl ?_
          refine x_iload_n dL_law_806 rfl ?_
          refine x_iconst (v := 2) dL_law_807 (by decide) ?_
          refine x_iadd dL_law_808 ?_
          refine x_iald dL_law_809 (fun x197 => ?_)
          refine cmL_90 rfl hs (Nat.le_of_ble_eq_true rfl) dL_law_810 (fun x199 M198 => ?_)
          refine x_icmp_eq (tgt := 1569) dL_law_813 (by decide) (fun _ => ?_) (fun _ => ?_)
          · exact x_weak (by exact ⟨rfl, ⟨rfl, ⟨rfl, ⟨rfl, trivial⟩⟩⟩⟩) (hj1569 M198)
          · exact x_weak (by exact trivial) (hj816 M198)
        · refine x_aload_n dL_law_818 rfl ?_
          refine x_aload_n dL_law_819 rfl ?_
          refine x_iload_n dL_law_820 rfl ?_
          refine x_iconst (v := 1) dL_law_821 (by decide) ?_
          refine x_iadd dL_law_822 ?_
          refine x_iald dL_law_823 (fun x200 => ?_)
          refine x_aload_n dL_law_824 rfl ?_
          refine x_iload_n dL_law_825 rfl ?_
          refine x_iconst (v := 2) dL_law_826 (by decide) ?_
          refine x_iadd dL_law_827 ?_
          refine x_iald dL_law_828 (fun x201 => ?_)
          refine x_aload_n dL_law_829 rfl ?_
          refine x_iload_n dL_law_830 rfl ?_
          refine x_iconst (v := 3) dL_law_831 (by decide) ?_
          refine x_iadd dL_law_832 ?_
          refine x_iald dL_law_833 (fun x202 => ?_)
          refine x_aload_n dL_law_834 rfl ?_
          refine x_iload_n dL_law_835 rfl ?_
          refine x_iconst (v := 4) dL_law_836 (by decide) ?_
          refine x_iadd dL_law_837 ?_
          refine x_iald dL_law_838 (fun x203 => ?_)
          refine x_jn (σ := Int32) 847 (fun s204 => [some (va_rf a0), some (va_rf x1), some (va_rf x4), some (.int s47.1)]) (fun s204 => [.int s204, .int x202, .int x201, .int x200, va_rf x1]) (fun s204 => s47.2) (fun s204 => ?_) (fun j847 hj847 => ?_)
          · refine x_aload_n dL_law_847 rfl ?_
            refine x_iload_n dL_law_848 rfl ?_
            refine x_iconst (v := 5) dL_law_849 (by decide) ?_
            refine x_iadd dL_law_850 ?_
            refine x_iald dL_law_851 (fun x205 => ?_)
            refine cmL_91 rfl hs (Nat.le_of_ble_eq_true rfl) dL_law_852 (fun x207 M206 => ?_)
            refine x_aload_n dL_law_855 rfl ?_
            refine x_aload_n dL_law_856 rfl ?_
            refine x_iload_n dL_law_857 rfl ?_
            refine x_iconst (v := 1) dL_law_858 (by decide) ?_
            refine x_iadd dL_law_859 ?_
            refine x_iald dL_law_860 (fun x208 => ?_)
            refine x_aload_n dL_law_861 rfl ?_
            refine x_iload_n dL_law_862 rfl ?_
            refine x_iconst (v := 2) dL_law_863 (by decide) ?_
            refine x_iadd dL_law_864 ?_
            refine x_iald dL_law_865 (fun x209 => ?_)
            refine x_aload_n dL_law_866 rfl ?_
            refine x_iload_n dL_law_867 rfl ?_
            refine x_iconst (v := 3) dL_law_868 (by decide) ?_
            refine x_iadd dL_law_869 ?_
            refine x_iald dL_law_870 (fun x210 => ?_)
            refine x_aload_n dL_law_871 rfl ?_
            refine x_iload_n dL_law_872 rfl ?_
            refine x_iconst (v := 4) dL_law_873 (by decide) ?_
            refine x_iadd dL_law_874 ?_
            refine x_iald dL_law_875 (fun x211 => ?_)
            refine x_jn (σ := Int32) 884 (fun s212 => [some (va_rf a0), some (va_rf x1), some (va_rf x4), some (.int s47.1)]) (fun s212 => [.int s212, .int x210, .int x209, .int x208, va_rf x4, .int x207]) (fun s212 => M206) (fun s212 => ?_) (fun j884 hj884 => ?_)
            · refine x_aload_n dL_law_884 rfl ?_
              refine x_iload_n dL_law_885 rfl ?_
              refine x_iconst (v := 5) dL_law_886 (by decide) ?_
              refine x_iadd dL_law_887 ?_
              refine x_iald dL_law_888 (fun x213 => ?_)
              refine cmL_95 rfl hs (Nat.le_of_ble_eq_true rfl) dL_law_889 (fun x215 M214 => ?_)
              refine x_icmp_eq (tgt := 1569) dL_law_892 (by decide) (fun _ => ?_) (fun _ => ?_)
              · exact x_weak (by exact ⟨rfl, ⟨rfl, ⟨rfl, ⟨rfl, trivial⟩⟩⟩⟩) (hj1569 M214)
              · exact x_weak (by exact trivial) (hj895 M214)
            refine x_if_eq (tgt := 883) dL_law_876 (by decide) (fun _ => ?_) (fun _ => ?_)
            · refine x_iconst (v := 0) dL_law_883 (by decide) ?_
              exact x_weak (by exact ⟨rfl, ⟨rfl, ⟨rfl, ⟨rfl, trivial⟩⟩⟩⟩) (hj884 ((0 : Int32)))
            · refine x_iconst (v := 1) dL_law_879 (by decide) ?_
              refine x_goto (tgt := 884) dL_law_880 (by decide) ?_
              exact x_weak (by exact ⟨rfl, ⟨rfl, ⟨rfl, ⟨rfl, trivial⟩⟩⟩⟩) (hj884 ((1 : Int32)))
          refine x_if_eq (tgt := 846) dL_law_839 (by decide) (fun _ => ?_) (fun _ => ?_)
          · refine x_iconst (v := 0) dL_law_846 (by decide) ?_
            exact x_weak (by exact ⟨rfl, ⟨rfl, ⟨rfl, ⟨rfl, trivial⟩⟩⟩⟩) (hj847 ((0 : Int32)))
          · refine x_iconst (v := 1) dL_law_842 (by decide) ?_
            refine x_goto (tgt := 847) dL_law_843 (by decide) ?_
            exact x_weak (by exact ⟨rfl, ⟨rfl, ⟨rfl, ⟨rfl, trivial⟩⟩⟩⟩) (hj847 ((1 : Int32)))
        · refine x_aload_n dL_law_897 rfl ?_
          refine x_aload_n dL_law_898 rfl ?_
          refine x_iload_n dL_law_899 rfl ?_
          refine x_iconst (v := 1) dL_law_900 (by decide) ?_
          refine x_iadd dL_law_901 ?_
          refine x_iald dL_law_902 (fun x216 => ?_)
          refine cmL_96 rfl hs (Nat.le_of_ble_eq_true rfl) dL_law_903 (fun x218 M217 => ?_)
          refine x_aload_n dL_law_906 rfl ?_
          refine x_aload_n dL_law_907 rfl ?_
          refine x_iload_n dL_law_908 rfl ?_
          refine x_iconst (v := 1) dL_law_909 (by decide) ?_
          refine x_iadd dL_law_910 ?_
          refine x_iald dL_law_911 (fun x219 => ?_)
          refine cmL_99 rfl hs (Nat.le_of_ble_eq_true rfl) dL_law_912 (fun x221 M220 => ?_)
          refine x_icmp_eq (tgt := 1569) dL_law_915 (by decide) (fun _ => ?_) (fun _ => ?_)
          · exact x_weak (by exact ⟨rfl, ⟨rfl, ⟨rfl, ⟨rfl, trivial⟩⟩⟩⟩) (hj1569 M220)
          · exact x_weak (by exact trivial) (hj918 M220)
        · refine x_aload_n dL_law_920 rfl ?_
          refine x_aload_n dL_law_921 rfl ?_
          refine x_iload_n dL_law_922 rfl ?_
          refine x_iconst (v := 1) dL_law_923 (by decide) ?_
          refine x_iadd dL_law_924 ?_
          refine x_iald dL_law_925 (fun x222 => ?_)
          refine x_aload_n dL_law_926 rfl ?_
          refine x_iload_n dL_law_927 rfl ?_
          refine x_iconst (v := 2) dL_law_928 (by decide) ?_
          refine x_iadd dL_law_929 ?_
          refine x_iald dL_law_930 (fun x223 => ?_)
          refine x_aload_n dL_law_931 rfl ?_
          refine x_iload_n dL_law_932 rfl ?_
          refine x_iconst (v := 3) dL_law_933 (by decide) ?_
          refine x_iadd dL_law_934 ?_
          refine x_iald dL_law_935 (fun x224 => ?_)
          refine cmL_100 rfl hs (Nat.le_of_ble_eq_true rfl) dL_law_936 (fun x226 M225 => ?_)
          refine x_aload_n dL_law_939 rfl ?_
          refine x_aload_n dL_law_940 rfl ?_
          refine x_iload_n dL_law_941 rfl ?_
          refine x_iconst (v := 1) dL_law_942 (by decide) ?_
          refine x_iadd dL_law_943 ?_
          refine x_iald dL_law_944 (fun x227 => ?_)
          refine x_aload_n dL_law_945 rfl ?_
          refine x_iload_n dL_law_946 rfl ?_
          refine x_iconst (v := 2) dL_law_947 (by decide) ?_
          refine x_iadd dL_law_948 ?_
          refine x_iald dL_law_949 (fun x228 => ?_)
          refine x_aload_n dL_law_950 rfl ?_
          refine x_iload_n dL_law_951 rfl ?_
          refine x_iconst (v := 3) dL_law_952 (by decide) ?_
          refine x_iadd dL_law_953 ?_
          refine x_iald dL_law_954 (fun x229 => ?_)
          refine cmL_103 rfl hs (Nat.le_of_ble_eq_true rfl) dL_law_955 (fun x231 M230 => ?_)
          refine x_icmp_eq (tgt := 1569) dL_law_958 (by decide) (fun _ => ?_) (fun _ => ?_)
          · exact x_weak (by exact ⟨rfl, ⟨rfl, ⟨rfl, ⟨rfl, trivial⟩⟩⟩⟩) (hj1569 M230)
          · exact x_weak (by exact trivial) (hj961 M230)
        · refine x_aload_n dL_law_963 rfl ?_
          refine x_aload_n dL_law_964 rfl ?_
          refine x_iload_n dL_law_965 rfl ?_
          refine x_iconst (v := 1) dL_law_966 (by decide) ?_
          refine x_iadd dL_law_967 ?_
          refine x_iald dL_law_968 (fun x232 => ?_)
          refine x_aload_n dL_law_969 rfl ?_
          refine x_iload_n dL_law_970 rfl ?_
          refine x_iconst (v := 2) dL_law_971 (by decide) ?_
          refine x_iadd dL_law_972 ?_
          refine x_iald dL_law_973 (fun x233 => ?_)
          refine x_aload_n dL_law_974 rfl ?_
          refine x_iload_n dL_law_975 rfl ?_
          refine x_iconst (v := 3) dL_law_976 (by decide) ?_
          refine x_iadd dL_law_977 ?_
          refine x_iald dL_law_978 (fun x234 => ?_)
          refine cmL_104 rfl hs (Nat.le_of_ble_eq_true rfl) dL_law_979 (fun x236 M235 => ?_)
          refine x_aload_n dL_law_982 rfl ?_
          refine x_aload_n dL_law_983 rfl ?_
          refine x_iload_n dL_law_984 rfl ?_
          refine x_iconst (v := 1) dL_law_985 (by decide) ?_
          refine x_iadd dL_law_986 ?_
          refine x_iald dL_law_987 (fun x237 => ?_)
          refine x_aload_n dL_law_988 rfl ?_
          refine x_iload_n dL_law_989 rfl ?_
          refine x_iconst (v := 2) dL_law_990 (by decide) ?_
          refine x_iadd dL_law_991 ?_
          refine x_iald dL_law_992 (fun x238 => ?_)
          refine x_aload_n dL_law_993 rfl ?_
          refine x_iload_n dL_law_994 rfl ?_
          refine x_iconst (v := 3) dL_law_995 (by decide) ?_
          refine x_iadd dL_law_996 ?_
          refine x_iald dL_law_997 (fun x239 => ?_)
          refine cmL_107 rfl hs (Nat.le_of_ble_eq_true rfl) dL_law_998 (fun x241 M240 => ?_)
          refine x_icmp_eq (tgt := 1569) dL_law_1001 (by decide) (fun _ => ?_) (fun _ => ?_)
          · exact x_weak (by exact ⟨rfl, ⟨rfl, ⟨rfl, ⟨rfl, trivial⟩⟩⟩⟩) (hj1569 M240)
          · exact x_weak (by exact trivial) (hj1004 M240)
        · refine x_aload_n dL_law_1006 rfl ?_
          refine x_aload_n dL_law_1007 rfl ?_
          refine x_iload_n dL_law_1008 rfl ?_
          refine x_iconst (v := 1) dL_law_1009 (by decide) ?_
          refine x_iadd dL_law_1010 ?_
          refine x_iald dL_law_1011 (fun x242 => ?_)
          refine cmL_108 rfl hs (Nat.le_of_ble_eq_true rfl) dL_law_1012 (fun x244 M243 => ?_)
          refine x_aload_n dL_law_1015 rfl ?_
          refine x_aload_n dL_law_1016 rfl ?_
          refine x_iload_n dL_law_1017 rfl ?_
          refine x_iconst (v := 1) dL_law_1018 (by decide) ?_
          refine x_iadd dL_law_1019 ?_
          refine x_iald dL_law_1020 (fun x245 => ?_)
          refine cmL_111 rfl hs (Nat.le_of_ble_eq_true rfl) dL_law_1021 (fun x247 M246 => ?_)
          refine x_icmp_eq (tgt := 1569) dL_law_1024 (by decide) (fun _ => ?_) (fun _ => ?_)
          · exact x_weak (by exact ⟨rfl, ⟨rfl, ⟨rfl, ⟨rfl, trivial⟩⟩⟩⟩) (hj1569 M246)
          · exact x_weak (by exact trivial) (hj1027 M246)
        · refine x_aload_n dL_law_1029 rfl ?_
          refine x_aload_n dL_law_1030 rfl ?_
          refine x_iload_n dL_law_1031 rfl ?_
          refine x_iconst (v := 1) dL_law_1032 (by decide) ?_
          refine x_iadd dL_law_1033 ?_
          refine x_iald dL_law_1034 (fun x248 => ?_)
          refine x_aload_n dL_law_1035 rfl ?_
          refine x_iload_n dL_law_1036 rfl ?_
          refine x_iconst (v := 2) dL_law_1037 (by decide) ?_
          refine x_iadd dL_law_1038 ?_
          refine x_iald dL_law_1039 (fun x249 => ?_)
          refine x_aload_n dL_law_1040 rfl ?_
          refine x_iload_n dL_law_1041 rfl ?_
          refine x_iconst (v := 3) dL_law_1042 (by decide) ?_
          refine x_iadd dL_law_1043 ?_
          refine x_iald dL_law_1044 (fun x250 => ?_)
          refine cmL_112 rfl hs (Nat.le_of_ble_eq_true rfl) dL_law_1045 (fun x252 M251 => ?_)
          refine x_aload_n dL_law_1048 rfl ?_
          refine x_aload_n dL_law_1049 rfl ?_
          refine x_iload_n dL_law_1050 rfl ?_
          refine x_iconst (v := 1) dL_law_1051 (by decide) ?_
          refine x_iadd dL_law_1052 ?_
          refine x_iald dL_law_1053 (fun x253 => ?_)
          refine x_aload_n dL_law_1054 rfl ?_
          refine x_iload_n dL_law_1055 rfl ?_
          refine x_iconst (v := 2) dL_law_1056 (by decide) ?_
          refine x_iadd dL_law_1057 ?_
          refine x_iald dL_law_1058 (fun x254 => ?_)
          refine x_aload_n dL_law_1059 rfl ?_
          refine x_iload_n dL_law_1060 rfl ?_
          refine x_iconst (v := 3) dL_law_1061 (by decide) ?_
          refine x_iadd dL_law_1062 ?_
          refine x_iald dL_law_1063 (fun x255 => ?_)
          refine cmL_115 rfl hs (Nat.le_of_ble_eq_true rfl) dL_law_1064 (fun x257 M256 => ?_)
          refine x_icmp_eq (tgt := 1569) dL_law_1067 (by decide) (fun _ => ?_) (fun _ => ?_)
          · exact x_weak (by exact ⟨rfl, ⟨rfl, ⟨rfl, ⟨rfl, trivial⟩⟩⟩⟩) (hj1569 M256)
          · exact x_weak (by exact trivial) (hj1070 M256)
        · refine x_aload_n dL_law_1072 rfl ?_
          refine x_aload_n dL_law_1073 rfl ?_
          refine x_iload_n dL_law_1074 rfl ?_
          refine x_iconst (v := 1) dL_law_1075 (by decide) ?_
          refine x_iadd dL_law_1076 ?_
          refine x_iald dL_law_1077 (fun x258 => ?_)
          refine x_aload_n dL_law_1078 rfl ?_
          refine x_iload_n dL_law_1079 rfl ?_
          refine x_iconst (v := 2) dL_law_1080 (by decide) ?_
          refine x_iadd dL_law_1081 ?_
          refine x_iald dL_law_1082 (fun x259 => ?_)
          refine cmL_116 rfl hs (Nat.le_of_ble_eq_true rfl) dL_law_1083 (fun x261 M260 => ?_)
          refine x_aload_n dL_law_1086 rfl ?_
          refine x_aload_n dL_law_1087 rfl ?_
          refine x_iload_n dL_law_1088 rfl ?_
          refine x_iconst (v := 1) dL_law_1089 (by decide) ?_
          refine x_iadd dL_law_1090 ?_
          refine x_iald dL_law_1091 (fun x262 => ?_)
          refine x_aload_n dL_law_1092 rfl ?_
          refine x_iload_n dL_law_1093 rfl ?_
          refine x_iconst (v := 2) dL_law_1094 (by decide) ?_
          refine x_iadd dL_law_1095 ?_
          refine x_iald dL_law_1096 (fun x263 => ?_)
          refine cmL_119 rfl hs (Nat.le_of_ble_eq_true rfl) dL_law_1097 (fun x265 M264 => ?_)
          refine x_icmp_eq (tgt := 1569) dL_law_1100 (by decide) (fun _ => ?_) (fun _ => ?_)
          · exact x_weak (by exact ⟨rfl, ⟨rfl, ⟨rfl, ⟨rfl, trivial⟩⟩⟩⟩) (hj1569 M264)
          · exact x_weak (by exact trivial) (hj1103 M264)
        · refine x_aload_n dL_law_1105 rfl ?_
          refine x_aload_n dL_law_1106 rfl ?_
          refine x_iload_n dL_law_1107 rfl ?_
          refine x_iconst (v := 1) dL_law_1108 (by decide) ?_
          refine x_iadd dL_law_1109 ?_
          refine x_iald dL_law_1110 (fun x266 => ?_)
          refine x_aload_n dL_law_1111 rfl ?_
          refine x_iload_n dL_law_1112 rfl ?_
          refine x_iconst (v := 2) dL_law_1113 (by decide) ?_
          refine x_iadd dL_law_1114 ?_
          refine x_iald dL_law_1115 (fun x267 => ?_)
          refine x_aload_n dL_law_1116 rfl ?_
          refine x_iload_n dL_law_1117 rfl ?_
          refine x_iconst (v := 3) dL_law_1118 (by decide) ?_
          refine x_iadd dL_law_1119 ?_
          refine x_iald dL_law_1120 (fun x268 => ?_)
          refine cmL_120 rfl hs (Nat.le_of_ble_eq_true rfl) dL_law_1121 (fun x270 M269 => ?_)
          refine x_aload_n dL_law_1124 rfl ?_
          refine x_aload_n dL_law_1125 rfl ?_
          refine x_iload_n dL_law_1126 rfl ?_
          refine x_iconst (v := 1) dL_law_1127 (by decide) ?_
          refine x_iadd dL_law_1128 ?_
          refine x_iald dL_law_1129 (fun x271 => ?_)
          refine x_aload_n dL_law_1130 rfl ?_
          refine x_iload_n dL_law_1131 rfl ?_
          refine x_iconst (v := 2) dL_law_1132 (by decide) ?_
          refine x_iadd dL_law_1133 ?_
          refine x_iald dL_law_1134 (fun x272 => ?_)
          refine x_aload_n dL_law_1135 rfl ?_
          refine x_iload_n dL_law_1136 rfl ?_
          refine x_iconst (v := 3) dL_law_1137 (by decide) ?_
          refine x_iadd dL_law_1138 ?_
          refine x_iald dL_law_1139 (fun x273 => ?_)
          refine cmL_123 rfl hs (Nat.le_of_ble_eq_true rfl) dL_law_1140 (fun x275 M274 => ?_)
          refine x_icmp_eq (tgt := 1569) dL_law_1143 (by decide) (fun _ => ?_) (fun _ => ?_)
          · exact x_weak (by exact ⟨rfl, ⟨rfl, ⟨rfl, ⟨rfl, trivial⟩⟩⟩⟩) (hj1569 M274)
          · exact x_weak (by exact trivial) (hj1146 M274)
        · refine x_aload_n dL_law_1148 rfl ?_
          refine x_aload_n dL_law_1149 rfl ?_
          refine x_iload_n dL_law_1150 rfl ?_
          refine x_iconst (v := 1) dL_law_1151 (by decide) ?_
          refine x_iadd dL_law_1152 ?_
          refine x_iald dL_law_1153 (fun x276 => ?_)
          refine cmL_124 rfl hs (Nat.le_of_ble_eq_true rfl) dL_law_1154 (fun x278 M277 => ?_)
          refine x_aload_n dL_law_1157 rfl ?_
          refine x_aload_n dL_law_1158 rfl ?_
          refine x_iload_n dL_law_1159 rfl ?_
          refine x_iconst (v := 1) dL_law_1160 (by decide) ?_
          refine x_iadd dL_law_1161 ?_
          refine x_iald dL_law_1162 (fun x279 => ?_)
          refine cmL_127 rfl hs (Nat.le_of_ble_eq_true rfl) dL_law_1163 (fun x281 M280 => ?_)
          refine x_icmp_eq (tgt := 1569) dL_law_1166 (by decide) (fun _ => ?_) (fun _ => ?_)
          · exact x_weak (by exact ⟨rfl, ⟨rfl, ⟨rfl, ⟨rfl, trivial⟩⟩⟩⟩) (hj1569 M280)
          · exact x_weak (by exact trivial) (hj1169 M280)
        · refine x_aload_n dL_law_1171 rfl ?_
          refine x_aload_n dL_law_1172 rfl ?_
          refine x_iload_n dL_law_1173 rfl ?_
          refine x_iconst (v := 1) dL_law_1174 (by decide) ?_
          refine x_iadd dL_law_1175 ?_
          refine x_iald dL_law_1176 (fun x282 => ?_)
          refine x_aload_n dL_law_1177 rfl ?_
          refine x_iload_n dL_law_1178 rfl ?_
          refine x_iconst (v := 2) dL_law_1179 (by decide) ?_
          refine x_iadd dL_law_1180 ?_
          refine x_iald dL_law_1181 (fun x283 => ?_)
          refine cmL_128 rfl hs (Nat.le_of_ble_eq_true rfl) dL_law_1182 (fun x285 M284 => ?_)
          refine x_aload_n dL_law_1185 rfl ?_
          refine x_aload_n dL_law_1186 rfl ?_
          refine x_iload_n dL_law_1187 rfl ?_
          refine x_iconst (v := 1) dL_law_1188 (by decide) ?_
          refine x_iadd dL_law_1189 ?_
          refine x_iald dL_law_1190 (fun x286 => ?_)
          refine x_aload_n dL_law_1191 rfl ?_
          refine x_iload_n dL_law_1192 rfl ?_
          refine x_iconst (v := 2) dL_law_1193 (by decide) ?_
          refine x_iadd dL_law_1194 ?_
          refine x_iald dL_law_1195 (fun x287 => ?_)
          refine cmL_131 rfl hs (Nat.le_of_ble_eq_true rfl) dL_law_1196 (fun x289 M288 => ?_)
          refine x_icmp_eq (tgt := 1569) dL_law_1199 (by decide) (fun _ => ?_) (fun _ => ?_)
          · exact x_weak (by exact ⟨rfl, ⟨rfl, ⟨rfl, ⟨rfl, trivial⟩⟩⟩⟩) (hj1569 M288)
          · exact x_weak (by exact trivial) (hj1202 M288)
        · refine x_aload_n dL_law_1204 rfl ?_
          refine x_aload_n dL_law_1205 rfl ?_
          refine x_iload_n dL_law_1206 rfl ?_
          refine x_iconst (v := 1) dL_law_1207 (by decide) ?_
          refine x_iadd dL_law_1208 ?_
          refine x_iald dL_law_1209 (fun x290 => ?_)
          refine cmL_132 rfl hs (Nat.le_of_ble_eq_true rfl) dL_law_1210 (fun x292 M291 => ?_)
          refine x_aload_n dL_law_1213 rfl ?_
          refine x_aload_n dL_law_1214 rfl ?_
          refine x_iload_n dL_law_1215 rfl ?_
          refine x_iconst (v := 1) dL_law_1216 (by decide) ?_
          refine x_iadd dL_law_1217 ?_
          refine x_iald dL_law_1218 (fun x293 => ?_)
          refine cmL_135 rfl hs (Nat.le_of_ble_eq_true rfl) dL_law_1219 (fun x295 M294 => ?_)
          refine x_icmp_eq (tgt := 1569) dL_law_1222 (by decide) (fun _ => ?_) (fun _ => ?_)
          · exact x_weak (by exact ⟨rfl, ⟨rfl, ⟨rfl, ⟨rfl, trivial⟩⟩⟩⟩) (hj1569 M294)
          · exact x_weak (by exact trivial) (hj1225 M294)
        · refine x_aload_n dL_law_1227 rfl ?_
          refine x_aload_n dL_law_1228 rfl ?_
          refine x_iload_n dL_law_1229 rfl ?_
          refine x_iconst (v := 1) dL_law_1230 (by decide) ?_
          refine x_iadd dL_law_1231 ?_
          refine x_iald dL_law_1232 (fun x296 => ?_)
          refine x_aload_n dL_law_1233 rfl ?_
          refine x_iload_n dL_law_1234 rfl ?_
          refine x_iconst (v := 2) dL_law_1235 (by decide) ?_
          refine x_iadd dL_law_1236 ?_
          refine x_iald dL_law_1237 (fun x297 => ?_)
          refine x_aload_n dL_law_1238 rfl ?_
          refine x_iload_n dL_law_1239 rfl ?_
          refine x_iconst (v := 3) dL_law_1240 (by decide) ?_
          refine x_iadd dL_law_1241 ?_
          refine x_iald dL_law_1242 (fun x298 => ?_)
          refine x_aload_n dL_law_1243 rfl ?_
          refine x_iload_n dL_law_1244 rfl ?_
          refine x_iconst (v := 4) dL_law_1245 (by decide) ?_
          refine x_iadd dL_law_1246 ?_
          refine x_iald dL_law_1247 (fun x299 => ?_)
          refine x_aload_n dL_law_1248 rfl ?_
          refine x_iload_n dL_law_1249 rfl ?_
          refine x_iconst (v := 5) dL_law_1250 (by decide) ?_
          refine x_iadd dL_law_1251 ?_
          refine x_iald dL_law_1252 (fun x300 => ?_)
          refine x_aload_n dL_law_1253 rfl ?_
          refine x_iload_n dL_law_1254 rfl ?_
          refine x_bipush (v := 6) dL_law_1255 (by decide) ?_
          refine x_iadd dL_law_1257 ?_
          refine x_iald dL_law_1258 (fun x301 => ?_)
          refine cmL_136 rfl hs (Nat.le_of_ble_eq_true rfl) dL_law_1259 (fun x303 M302 => ?_)
          refine x_aload_n dL_law_1262 rfl ?_
          refine x_aload_n dL_law_1263 rfl ?_
          refine x_iload_n dL_law_1264 rfl ?_
          refine x_iconst (v := 1) dL_law_1265 (by decide) ?_
          refine x_iadd dL_law_1266 ?_
          refine x_iald dL_law_1267 (fun x304 => ?_)
          refine x_aload_n dL_law_1268 rfl ?_
          refine x_iload_n dL_law_1269 rfl ?_
          refine x_iconst (v := 2) dL_law_1270 (by decide) ?_
          refine x_iadd dL_law_1271 ?_
          refine x_iald dL_law_1272 (fun x305 => ?_)
          refine x_aload_n dL_law_1273 rfl ?_
          refine x_iload_n dL_law_1274 rfl ?_
          refine x_iconst (v := 3) dL_law_1275 (by decide) ?_
          refine x_iadd dL_law_1276 ?_
          refine x_iald dL_law_1277 (fun x306 => ?_)
          refine x_aload_n dL_law_1278 rfl ?_
          refine x_iload_n dL_law_1279 rfl ?_
          refine x_iconst (v := 4) dL_law_1280 (by decide) ?_
          refine x_iadd dL_law_1281 ?_
          refine x_iald dL_law_1282 (fun x307 => ?_)
          refine x_aload_n dL_law_1283 rfl ?_
          refine x_iload_n dL_law_1284 rfl ?_
          refine x_iconst (v := 5) dL_law_1285 (by decide) ?_
          refine x_iadd dL_law_1286 ?_
          refine x_iald dL_law_1287 (fun x308 => ?_)
          refine x_aload_n dL_law_1288 rfl ?_
          refine x_iload_n dL_law_1289 rfl ?_
          refine x_bipush (v := 6) dL_law_1290 (by decide) ?_
          refine x_iadd dL_law_1292 ?_
          refine x_iald dL_law_1293 (fun x309 => ?_)
          refine cmL_140 rfl hs (Nat.le_of_ble_eq_true rfl) dL_law_1294 (fun x311 M310 => ?_)
          refine x_icmp_eq (tgt := 1569) dL_law_1297 (by decide) (fun _ => ?_) (fun _ => ?_)
          · exact x_weak (by exact ⟨rfl, ⟨rfl, ⟨rfl, ⟨rfl, trivial⟩⟩⟩⟩) (hj1569 M310)
          · exact x_weak (by exact trivial) (hj1300 M310)
        · refine x_aload_n dL_law_1302 rfl ?_
          refine x_aload_n dL_law_1303 rfl ?_
          refine x_iload_n dL_law_1304 rfl ?_
          refine x_iconst (v := 1) dL_law_1305 (by decide) ?_
          refine x_iadd dL_law_1306 ?_
          refine x_iald dL_law_1307 (fun x312 => ?_)
          refine cmL_141 rfl hs (Nat.le_of_ble_eq_true rfl) dL_law_1308 (fun x314 M313 => ?_)
          refine x_aload_n dL_law_1311 rfl ?_
          refine x_aload_n dL_law_1312 rfl ?_
          refine x_iload_n dL_law_1313 rfl ?_
          refine x_iconst (v := 1) dL_law_1314 (by decide) ?_
          refine x_iadd dL_law_1315 ?_
          refine x_iald dL_law_1316 (fun x315 => ?_)
          refine cmL_144 rfl hs (Nat.le_of_ble_eq_true rfl) dL_law_1317 (fun x317 M316 => ?_)
          refine x_icmp_eq (tgt := 1569) dL_law_1320 (by decide) (fun _ => ?_) (fun _ => ?_)
          · exact x_weak (by exact ⟨rfl, ⟨rfl, ⟨rfl, ⟨rfl, trivial⟩⟩⟩⟩) (hj1569 M316)
          · exact x_weak (by exact trivial) (hj1323 M316)
        · refine x_aload_n dL_law_1325 rfl ?_
          refine x_aload_n dL_law_1326 rfl ?_
          refine x_iload_n dL_law_1327 rfl ?_
          refine x_iconst (v := 1) dL_law_1328 (by decide) ?_
          refine x_iadd dL_law_1329 ?_
          refine x_iald dL_law_1330 (fun x318 => ?_)
          refine x_aload_n dL_law_1331 rfl ?_
          refine x_iload_n dL_law_1332 rfl ?_
          refine x_iconst (v := 2) dL_law_1333 (by decide) ?_
          refine x_iadd dL_law_1334 ?_
          refine x_iald dL_law_1335 (fun x319 => ?_)
          refine cmL_145 rfl hs (Nat.le_of_ble_eq_true rfl) dL_law_1336 (fun x321 M320 => ?_)
          refine x_aload_n dL_law_1339 rfl ?_
          refine x_aload_n dL_law_1340 rfl ?_
          refine x_iload_n dL_law_1341 rfl ?_
          refine x_iconst (v := 1) dL_law_1342 (by decide) ?_
          refine x_iadd dL_law_1343 ?_
          refine x_iald dL_law_1344 (fun x322 => ?_)
          refine x_aload_n dL_law_1345 rfl ?_
          refine x_iload_n dL_law_1346 rfl ?_
          refine x_iconst (v := 2) dL_law_1347 (by decide) ?_
          refine x_iadd dL_law_1348 ?_
          refine x_iald dL_law_1349 (fun x323 => ?_)
          refine cmL_148 rfl hs (Nat.le_of_ble_eq_true rfl) dL_law_1350 (fun x325 M324 => ?_)
          refine x_icmp_eq (tgt := 1569) dL_law_1353 (by decide) (fun _ => ?_) (fun _ => ?_)
          · exact x_weak (by exact ⟨rfl, ⟨rfl, ⟨rfl, ⟨rfl, trivial⟩⟩⟩⟩) (hj1569 M324)
          · exact x_weak (by exact trivial) (hj1356 M324)
        · refine x_aload_n dL_law_1358 rfl ?_
          refine x_aload_n dL_law_1359 rfl ?_
          refine x_iload_n dL_law_1360 rfl ?_
          refine x_iconst (v := 1) dL_law_1361 (by decide) ?_
          refine x_iadd dL_law_1362 ?_
          refine x_iald dL_law_1363 (fun x326 => ?_)
          refine x_aload_n dL_law_1364 rfl ?_
          refine x_iload_n dL_law_1365 rfl ?_
          refine x_iconst (v := 2) dL_law_1366 (by decide) ?_
          refine x_iadd dL_law_1367 ?_
          refine x_iald dL_law_1368 (fun x327 => ?_)
          refine cmL_149 rfl hs (Nat.le_of_ble_eq_true rfl) dL_law_1369 (fun x329 M328 => ?_)
          refine x_aload_n dL_law_1372 rfl ?_
          refine x_aload_n dL_law_1373 rfl ?_
          refine x_iload_n dL_law_1374 rfl ?_
          refine x_iconst (v := 1) dL_law_1375 (by decide) ?_
          refine x_iadd dL_law_1376 ?_
          refine x_iald dL_law_1377 (fun x330 => ?_)
          refine x_aload_n dL_law_1378 rfl ?_
          refine x_iload_n dL_law_1379 rfl ?_
          refine x_iconst (v := 2) dL_law_1380 (by decide) ?_
          refine x_iadd dL_law_1381 ?_
          refine x_iald dL_law_1382 (fun x331 => ?_)
          refine cmL_152 rfl hs (Nat.le_of_ble_eq_true rfl) dL_law_1383 (fun x333 M332 => ?_)
          refine x_icmp_eq (tgt := 1569) dL_law_1386 (by decide) (fun _ => ?_) (fun _ => ?_)
          · exact x_weak (by exact ⟨rfl, ⟨rfl, ⟨rfl, ⟨rfl, trivial⟩⟩⟩⟩) (hj1569 M332)
          · exact x_weak (by exact trivial) (hj1389 M332)
        · refine x_aload_n dL_law_1391 rfl ?_
          refine x_aload_n dL_law_1392 rfl ?_
          refine x_iload_n dL_law_1393 rfl ?_
          refine x_iconst (v := 1) dL_law_1394 (by decide) ?_
          refine x_iadd dL_law_1395 ?_
          refine x_iald dL_law_1396 (fun x334 => ?_)
          refine cmL_153 rfl hs (Nat.le_of_ble_eq_true rfl) dL_law_1397 (fun x336 M335 => ?_)
          refine x_aload_n dL_law_1400 rfl ?_
          refine x_aload_n dL_law_1401 rfl ?_
          refine x_iload_n dL_law_1402 rfl ?_
          refine x_iconst (v := 1) dL_law_1403 (by decide) ?_
          refine x_iadd dL_law_1404 ?_
          refine x_iald dL_law_1405 (fun x337 => ?_)
          refine cmL_156 rfl hs (Nat.le_of_ble_eq_true rfl) dL_law_1406 (fun x339 M338 => ?_)
          refine x_icmp_eq (tgt := 1569) dL_law_1409 (by decide) (fun _ => ?_) (fun _ => ?_)
          · exact x_weak (by exact ⟨rfl, ⟨rfl, ⟨rfl, ⟨rfl, trivial⟩⟩⟩⟩) (hj1569 M338)
          · exact x_weak (by exact trivial) (hj1412 M338)
        · refine x_aload_n dL_law_1414 rfl ?_
          refine x_aload_n dL_law_1415 rfl ?_
          refine x_iload_n dL_law_1416 rfl ?_
          refine x_iconst (v := 1) dL_law_1417 (by decide) ?_
          refine x_iadd dL_law_1418 ?_
          refine x_iald dL_law_1419 (fun x340 => ?_)
          refine x_aload_n dL_law_1420 rfl ?_
          refine x_iload_n dL_law_1421 rfl ?_
          refine x_iconst (v := 2) dL_law_1422 (by decide) ?_
          refine x_iadd dL_law_1423 ?_
          refine x_iald dL_law_1424 (fun x341 => ?_)
          refine cmL_157 rfl hs (Nat.le_of_ble_eq_true rfl) dL_law_1425 (fun x343 M342 => ?_)
          refine x_aload_n dL_law_1428 rfl ?_
          refine x_aload_n dL_law_1429 rfl ?_
          refine x_iload_n dL_law_1430 rfl ?_
          refine x_iconst (v := 1) dL_law_1431 (by decide) ?_
          refine x_iadd dL_law_1432 ?_
          refine x_iald dL_law_1433 (fun x344 => ?_)
          refine x_aload_n dL_law_1434 rfl ?_
          refine x_iload_n dL_law_1435 rfl ?_
          refine x_iconst (v := 2) dL_law_1436 (by decide) ?_
          refine x_iadd dL_law_1437 ?_
          refine x_iald dL_law_1438 (fun x345 => ?_)
          refine cmL_160 rfl hs (Nat.le_of_ble_eq_true rfl) dL_law_1439 (fun x347 M346 => ?_)
          refine x_icmp_eq (tgt := 1569) dL_law_1442 (by decide) (fun _ => ?_) (fun _ => ?_)
          · exact x_weak (by exact ⟨rfl, ⟨rfl, ⟨rfl, ⟨rfl, trivial⟩⟩⟩⟩) (hj1569 M346)
          · exact x_weak (by exact trivial) (hj1445 M346)
        · refine x_aload_n dL_law_1447 rfl ?_
          refine x_aload_n dL_law_1448 rfl ?_
          refine x_iload_n dL_law_1449 rfl ?_
          refine x_iconst (v := 1) dL_law_1450 (by decide) ?_
          refine x_iadd dL_law_1451 ?_
          refine x_iald dL_law_1452 (fun x348 => ?_)
          refine cmL_161 rfl hs (Nat.le_of_ble_eq_true rfl) dL_law_1453 (fun x350 M349 => ?_)
          refine x_aload_n dL_law_1456 rfl ?_
          refine x_aload_n dL_law_1457 rfl ?_
          refine x_iload_n dL_law_1458 rfl ?_
          refine x_iconst (v := 1) dL_law_1459 (by decide) ?_
          refine x_iadd dL_law_1460 ?_
          refine x_iald dL_law_1461 (fun x351 => ?_)
          refine cmL_164 rfl hs (Nat.le_of_ble_eq_true rfl) dL_law_1462 (fun x353 M352 => ?_)
          refine x_icmp_eq (tgt := 1569) dL_law_1465 (by decide) (fun _ => ?_) (fun _ => ?_)
          · exact x_weak (by exact ⟨rfl, ⟨rfl, ⟨rfl, ⟨rfl, trivial⟩⟩⟩⟩) (hj1569 M352)
          · exact x_weak (by exact trivial) (hj1468 M352)
        · refine x_aload_n dL_law_1470 rfl ?_
          refine x_aload_n dL_law_1471 rfl ?_
          refine x_iload_n dL_law_1472 rfl ?_
          refine x_iconst (v := 1) dL_law_1473 (by decide) ?_
          refine x_iadd dL_law_1474 ?_
          refine x_iald dL_law_1475 (fun x354 => ?_)
          refine x_aload_n dL_law_1476 rfl ?_
          refine x_iload_n dL_law_1477 rfl ?_
          refine x_iconst (v := 2) dL_law_1478 (by decide) ?_
          refine x_iadd dL_law_1479 ?_
          refine x_iald dL_law_1480 (fun x355 => ?_)
          refine cmL_165 rfl hs (Nat.le_of_ble_eq_true rfl) dL_law_1481 (fun x357 M356 => ?_)
          refine x_aload_n dL_law_1484 rfl ?_
          refine x_aload_n dL_law_1485 rfl ?_
          refine x_iload_n dL_law_1486 rfl ?_
          refine x_iconst (v := 1) dL_law_1487 (by decide) ?_
          refine x_iadd dL_law_1488 ?_
          refine x_iald dL_law_1489 (fun x358 => ?_)
          refine x_aload_n dL_law_1490 rfl ?_
          refine x_iload_n dL_law_1491 rfl ?_
          refine x_iconst (v := 2) dL_law_1492 (by decide) ?_
          refine x_iadd dL_law_1493 ?_
          refine x_iald dL_law_1494 (fun x359 => ?_)
          refine cmL_168 rfl hs (Nat.le_of_ble_eq_true rfl) dL_law_1495 (fun x361 M360 => ?_)
          refine x_icmp_eq (tgt := 1569) dL_law_1498 (by decide) (fun _ => ?_) (fun _ => ?_)
          · exact x_weak (by exact ⟨rfl, ⟨rfl, ⟨rfl, ⟨rfl, trivial⟩⟩⟩⟩) (hj1569 M360)
          · exact x_weak (by exact trivial) (hj1501 M360)
        · refine x_aload_n dL_law_1503 rfl ?_
          refine x_aload_n dL_law_1504 rfl ?_
          refine x_iload_n dL_law_1505 rfl ?_
          refine x_iconst (v := 1) dL_law_1506 (by decide) ?_
          refine x_iadd dL_law_1507 ?_
          refine x_iald dL_law_1508 (fun x362 => ?_)
          refine x_aload_n dL_law_1509 rfl ?_
          refine x_iload_n dL_law_1510 rfl ?_
          refine x_iconst (v := 2) dL_law_1511 (by decide) ?_
          refine x_iadd dL_law_1512 ?_
          refine x_iald dL_law_1513 (fun x363 => ?_)
          refine cmL_169 rfl hs (Nat.le_of_ble_eq_true rfl) dL_law_1514 (fun x365 M364 => ?_)
          refine x_aload_n dL_law_1517 rfl ?_
          refine x_aload_n dL_law_1518 rfl ?_
          refine x_iload_n dL_law_1519 rfl ?_
          refine x_iconst (v := 1) dL_law_1520 (by decide) ?_
          refine x_iadd dL_law_1521 ?_
          refine x_iald dL_law_1522 (fun x366 => ?_)
          refine x_aload_n dL_law_1523 rfl ?_
          refine x_iload_n dL_law_1524 rfl ?_
          refine x_iconst (v := 2) dL_law_1525 (by decide) ?_
          refine x_iadd dL_law_1526 ?_
          refine x_iald dL_law_1527 (fun x367 => ?_)
          refine cmL_172 rfl hs (Nat.le_of_ble_eq_true rfl) dL_law_1528 (fun x369 M368 => ?_)
          refine x_icmp_eq (tgt := 1569) dL_law_1531 (by decide) (fun _ => ?_) (fun _ => ?_)
          · exact x_weak (by exact ⟨rfl, ⟨rfl, ⟨rfl, ⟨rfl, trivial⟩⟩⟩⟩) (hj1569 M368)
          · exact x_weak (by exact trivial) (hj1534 M368)
        · refine x_aload_n dL_law_1536 rfl ?_
          refine x_aload_n dL_law_1537 rfl ?_
          refine x_iload_n dL_law_1538 rfl ?_
          refine x_iconst (v := 1) dL_law_1539 (by decide) ?_
          refine x_iadd dL_law_1540 ?_
          refine x_iald dL_law_1541 (fun x370 => ?_)
          refine x_aload_n dL_law_1542 rfl ?_
          refine x_iload_n dL_law_1543 rfl ?_
          refine x_iconst (v := 2) dL_law_1544 (by decide) ?_
          refine x_iadd dL_law_1545 ?_
          refine x_iald dL_law_1546 (fun x371 => ?_)
          refine cmL_173 rfl hs (Nat.le_of_ble_eq_true rfl) dL_law_1547 (fun x373 M372 => ?_)
          refine x_aload_n dL_law_1550 rfl ?_
          refine x_aload_n dL_law_1551 rfl ?_
          refine x_iload_n dL_law_1552 rfl ?_
          refine x_iconst (v := 1) dL_law_1553 (by decide) ?_
          refine x_iadd dL_law_1554 ?_
          refine x_iald dL_law_1555 (fun x374 => ?_)
          refine x_aload_n dL_law_1556 rfl ?_
          refine x_iload_n dL_law_1557 rfl ?_
          refine x_iconst (v := 2) dL_law_1558 (by decide) ?_
          refine x_iadd dL_law_1559 ?_
          refine x_iald dL_law_1560 (fun x375 => ?_)
          refine cmL_176 rfl hs (Nat.le_of_ble_eq_true rfl) dL_law_1561 (fun x377 M376 => ?_)
          refine x_icmp_eq (tgt := 1569) dL_law_1564 (by decide) (fun _ => ?_) (fun _ => ?_)
          · exact x_weak (by exact ⟨rfl, ⟨rfl, ⟨rfl, ⟨rfl, trivial⟩⟩⟩⟩) (hj1569 M376)
          · exact x_weak (by exact trivial) (hj1567 M376)
      · exact x_weak (by exact ⟨rfl, ⟨rfl, ⟨rfl, ⟨rfl, trivial⟩⟩⟩⟩) (hj1569 s47.2)
