set_option maxRecDepth 100000 in
def cLaw (rec : Nat → List Value → Mem → XA) (a0 : Option Nat) (M0 : Mem) : XA :=
  nO (12, 19) M0 fun x1 M2 =>
  vC (12, 19) M2 x1 <|
  cV (rec 127 [va_rf x1] M2) fun M3 =>
  nO (13, 157) M3 fun x4 M5 =>
  vC (13, 157) M5 x4 <|
  cV (rec 183 [va_rf x4] M5) fun M6 =>
  lp (fun (s7 : Int32 × Mem) j18 =>
    aln s7.2 a0 fun x8 =>
    if (x8 - ((7 : Int32))) < s7.1 then (
      rtZ ((1 : Int32)) s7.2) else (
      alI 100 s7.2 a0 s7.1 fun x9 =>
      jn (fun (s10 : Mem) =>
        lt (s7.1 + (7 : Int32)) fun (x11 : Int32) =>
        j18 (x11, s10)) fun j1569 =>
      swI (x9 &&& ((63 : Int32))) [
       ((0 : Int32), (
          alI 100 s7.2 a0 (s7.1 + ((1 : Int32))) fun x12 =>
          alI 100 s7.2 a0 (s7.1 + ((2 : Int32))) fun x13 =>
          alI 100 s7.2 a0 (s7.1 + ((3 : Int32))) fun x14 =>
          alI 100 s7.2 a0 (s7.1 + ((4 : Int32))) fun x15 =>
          alI 100 s7.2 a0 (s7.1 + ((5 : Int32))) fun x16 =>
          vC (12, 19) s7.2 x1 <|
          cI (rec 128 [va_rf x1, .int x12, .int x13, .int x14, .int x15, .int x16] s7.2) fun x18 M17 =>
          alI 100 M17 a0 (s7.1 + ((1 : Int32))) fun x19 =>
          alI 100 M17 a0 (s7.1 + ((2 : Int32))) fun x20 =>
          alI 100 M17 a0 (s7.1 + ((3 : Int32))) fun x21 =>
          alI 100 M17 a0 (s7.1 + ((4 : Int32))) fun x22 =>
          alI 100 M17 a0 (s7.1 + ((5 : Int32))) fun x23 =>
          vC (13, 157) M17 x4 <|
          cI (rec 185 [va_rf x4, .int x19, .int x20, .int x21, .int x22, .int x23] M17) fun x25 M24 =>
          if x18 = x25 then (
            j1569 M24) else (
            rtZ ((0 : Int32)) M24))),
       ((1 : Int32), (
          alI 100 s7.2 a0 (s7.1 + ((1 : Int32))) fun x26 =>
          vC (12, 19) s7.2 x1 <|
          cI (rec 129 [va_rf x1, .int x26] s7.2) fun x28 M27 =>
          alI 100 M27 a0 (s7.1 + ((1 : Int32))) fun x29 =>
          vC (13, 157) M27 x4 <|
          cI (rec 186 [va_rf x4, .int x29] M27) fun x31 M30 =>
          if x28 = x31 then (
            j1569 M30) else (
            rtZ ((0 : Int32)) M30))),
       ((2 : Int32), (
          vC (12, 19) s7.2 x1 <|
          cI (rec 130 [va_rf x1] s7.2) fun x33 M32 =>
          vC (13, 157) M32 x4 <|
          cI (rec 231 [va_rf x4] M32) fun x35 M34 =>
          if x33 = x35 then (
            j1569 M34) else (
            rtZ ((0 : Int32)) M34))),
       ((3 : Int32), (
          vC (12, 19) s7.2 x1 <|
          cI (rec 131 [va_rf x1] s7.2) fun x37 M36 =>
          vC (13, 157) M36 x4 <|
          cI (rec 234 [va_rf x4] M36) fun x39 M38 =>
          if x37 = x39 then (
            j1569 M38) else (
            rtZ ((0 : Int32)) M38))),
       ((4 : Int32), (
          alI 100 s7.2 a0 (s7.1 + ((1 : Int32))) fun x40 =>
          alI 100 s7.2 a0 (s7.1 + ((2 : Int32))) fun x41 =>
          vC (12, 19) s7.2 x1 <|
          cI (rec 132 [va_rf x1, .int x40, .int x41] s7.2) fun x43 M42 =>
          alI 100 M42 a0 (s7.1 + ((1 : Int32))) fun x44 =>
          alI 100 M42 a0 (s7.1 + ((2 : Int32))) fun x45 =>
          vC (13, 157) M42 x4 <|
          cI (rec 263 [va_rf x4, .int x44, .int x45] M42) fun x47 M46 =>
          if x43 = x47 then (
            j1569 M46) else (
            rtZ ((0 : Int32)) M46))),
       ((5 : Int32), (
          alI 100 s7.2 a0 (s7.1 + ((1 : Int32))) fun x48 =>
          alI 100 s7.2 a0 (s7.1 + ((2 : Int32))) fun x49 =>
          alI 100 s7.2 a0 (s7.1 + ((3 : Int32))) fun x50 =>
          vC (12, 19) s7.2 x1 <|
          cI (rec 133 [va_rf x1, .int x48, .int x49, .int x50] s7.2) fun x52 M51 =>
          alI 100 M51 a0 (s7.1 + ((1 : Int32))) fun x53 =>
          alI 100 M51 a0 (s7.1 + ((2 : Int32))) fun x54 =>
          alI 100 M51 a0 (s7.1 + ((3 : Int32))) fun x55 =>
          vC (13, 157) M51 x4 <|
          cI (rec 264 [va_rf x4, .int x53, .int x54, .int x55] M51) fun x57 M56 =>
          if x52 = x57 then (
            j1569 M56) else (
            rtZ ((0 : Int32)) M56))),
       ((6 : Int32), (
          alI 100 s7.2 a0 (s7.1 + ((1 : Int32))) fun x58 =>
          alI 100 s7.2 a0 (s7.1 + ((2 : Int32))) fun x59 =>
          alI 100 s7.2 a0 (s7.1 + ((3 : Int32))) fun x60 =>
          vC (12, 19) s7.2 x1 <|
          cI (rec 134 [va_rf x1, .int x58, .int x59, .int x60] s7.2) fun x62 M61 =>
          alI 100 M61 a0 (s7.1 + ((1 : Int32))) fun x63 =>
          alI 100 M61 a0 (s7.1 + ((2 : Int32))) fun x64 =>
          alI 100 M61 a0 (s7.1 + ((3 : Int32))) fun x65 =>
          vC (13, 157) M61 x4 <|
          cI (rec 265 [va_rf x4, .int x63, .int x64, .int x65] M61) fun x67 M66 =>
          if x62 = x67 then (
            j1569 M66) else (
            rtZ ((0 : Int32)) M66))),
       ((7 : Int32), (
          alI 100 s7.2 a0 (s7.1 + ((1 : Int32))) fun x68 =>
          alI 100 s7.2 a0 (s7.1 + ((2 : Int32))) fun x69 =>
          alI 100 s7.2 a0 (s7.1 + ((3 : Int32))) fun x70 =>
          alI 100 s7.2 a0 (s7.1 + ((4 : Int32))) fun x71 =>
          vC (12, 19) s7.2 x1 <|
          cI (rec 135 [va_rf x1, .int x68, .int x69, .int x70, .int x71] s7.2) fun x73 M72 =>
          alI 100 M72 a0 (s7.1 + ((1 : Int32))) fun x74 =>
          alI 100 M72 a0 (s7.1 + ((2 : Int32))) fun x75 =>
          alI 100 M72 a0 (s7.1 + ((3 : Int32))) fun x76 =>
          alI 100 M72 a0 (s7.1 + ((4 : Int32))) fun x77 =>
          vC (13, 157) M72 x4 <|
          cI (rec 266 [va_rf x4, .int x74, .int x75, .int x76, .int x77] M72) fun x79 M78 =>
          if x73 = x79 then (
            j1569 M78) else (
            rtZ ((0 : Int32)) M78))),
       ((8 : Int32), (
          alI 100 s7.2 a0 (s7.1 + ((1 : Int32))) fun x80 =>
          alI 100 s7.2 a0 (s7.1 + ((2 : Int32))) fun x81 =>
          alI 100 s7.2 a0 (s7.1 + ((3 : Int32))) fun x82 =>
          vC (12, 19) s7.2 x1 <|
          cI (rec 136 [va_rf x1, .int x80, .int x81, .int x82] s7.2) fun x84 M83 =>
          alI 100 M83 a0 (s7.1 + ((1 : Int32))) fun x85 =>
          alI 100 M83 a0 (s7.1 + ((2 : Int32))) fun x86 =>
          alI 100 M83 a0 (s7.1 + ((3 : Int32))) fun x87 =>
          vC (13, 157) M83 x4 <|
          cI (rec 267 [va_rf x4, .int x85, .int x86, .int x87] M83) fun x89 M88 =>
          if x84 = x89 then (
            j1569 M88) else (
            rtZ ((0 : Int32)) M88))),
       ((9 : Int32), (
          alI 100 s7.2 a0 (s7.1 + ((1 : Int32))) fun x90 =>
          vC (12, 19) s7.2 x1 <|
          cI (rec 137 [va_rf x1, .int x90] s7.2) fun x92 M91 =>
          alI 100 M91 a0 (s7.1 + ((1 : Int32))) fun x93 =>
          vC (13, 157) M91 x4 <|
          cI (rec 268 [va_rf x4, .int x93] M91) fun x95 M94 =>
          if x92 = x95 then (
            j1569 M94) else (
            rtZ ((0 : Int32)) M94))),
       ((10 : Int32), (
          alI 100 s7.2 a0 (s7.1 + ((1 : Int32))) fun x96 =>
          vC (12, 19) s7.2 x1 <|
          cI (rec 138 [va_rf x1, .int x96] s7.2) fun x98 M97 =>
          alI 100 M97 a0 (s7.1 + ((1 : Int32))) fun x99 =>
          vC (13, 157) M97 x4 <|
          cI (rec 269 [va_rf x4, .int x99] M97) fun x101 M100 =>
          if x98 = x101 then (
            j1569 M100) else (
            rtZ ((0 : Int32)) M100))),
       ((11 : Int32), (
          alI 100 s7.2 a0 (s7.1 + ((1 : Int32))) fun x102 =>
          alI 100 s7.2 a0 (s7.1 + ((2 : Int32))) fun x103 =>
          alI 100 s7.2 a0 (s7.1 + ((3 : Int32))) fun x104 =>
          vC (12, 19) s7.2 x1 <|
          cI (rec 139 [va_rf x1, .int x102, .int x103, .int x104] s7.2) fun x106 M105 =>
          alI 100 M105 a0 (s7.1 + ((1 : Int32))) fun x107 =>
          alI 100 M105 a0 (s7.1 + ((2 : Int32))) fun x108 =>
          alI 100 M105 a0 (s7.1 + ((3 : Int32))) fun x109 =>
          vC (13, 157) M105 x4 <|
          cI (rec 270 [va_rf x4, .int x107, .int x108, .int x109] M105) fun x111 M110 =>
          if x106 = x111 then (
            j1569 M110) else (
            rtZ ((0 : Int32)) M110))),
       ((12 : Int32), (
          alI 100 s7.2 a0 (s7.1 + ((1 : Int32))) fun x112 =>
          vC (12, 19) s7.2 x1 <|
          cI (rec 140 [va_rf x1, .int x112] s7.2) fun x114 M113 =>
          alI 100 M113 a0 (s7.1 + ((1 : Int32))) fun x115 =>
          vC (13, 157) M113 x4 <|
          cI (rec 257 [va_rf x4, .int x115] M113) fun x117 M116 =>
          if x114 = x117 then (
            j1569 M116) else (
            rtZ ((0 : Int32)) M116))),
       ((13 : Int32), (
          alI 100 s7.2 a0 (s7.1 + ((1 : Int32))) fun x118 =>
          alI 100 s7.2 a0 (s7.1 + ((2 : Int32))) fun x119 =>
          alI 100 s7.2 a0 (s7.1 + ((3 : Int32))) fun x120 =>
          vC (12, 19) s7.2 x1 <|
          cI (rec 141 [va_rf x1, .int x118, .int x119, .int x120] s7.2) fun x122 M121 =>
          alI 100 M121 a0 (s7.1 + ((1 : Int32))) fun x123 =>
          alI 100 M121 a0 (s7.1 + ((2 : Int32))) fun x124 =>
          alI 100 M121 a0 (s7.1 + ((3 : Int32))) fun x125 =>
          vC (13, 157) M121 x4 <|
          cI (rec 258 [va_rf x4, .int x123, .int x124, .int x125] M121) fun x127 M126 =>
          if x122 = x127 then (
            j1569 M126) else (
            rtZ ((0 : Int32)) M126))),
       ((14 : Int32), (
          alI 100 s7.2 a0 (s7.1 + ((1 : Int32))) fun x128 =>
          alI 100 s7.2 a0 (s7.1 + ((2 : Int32))) fun x129 =>
          alI 100 s7.2 a0 (s7.1 + ((3 : Int32))) fun x130 =>
          vC (12, 19) s7.2 x1 <|
          cI (rec 142 [va_rf x1, .int x128, .int x129, .int x130] s7.2) fun x132 M131 =>
          alI 100 M131 a0 (s7.1 + ((1 : Int32))) fun x133 =>
          alI 100 M131 a0 (s7.1 + ((2 : Int32))) fun x134 =>
          alI 100 M131 a0 (s7.1 + ((3 : Int32))) fun x135 =>
          vC (13, 157) M131 x4 <|
          cI (rec 259 [va_rf x4, .int x133, .int x134, .int x135] M131) fun x137 M136 =>
          if x132 = x137 then (
            j1569 M136) else (
            rtZ ((0 : Int32)) M136))),
       ((15 : Int32), (
          alI 100 s7.2 a0 (s7.1 + ((1 : Int32))) fun x138 =>
          alI 100 s7.2 a0 (s7.1 + ((2 : Int32))) fun x139 =>
          vC (12, 19) s7.2 x1 <|
          cI (rec 143 [va_rf x1, .int x138, .int x139] s7.2) fun x141 M140 =>
          alI 100 M140 a0 (s7.1 + ((1 : Int32))) fun x142 =>
          alI 100 M140 a0 (s7.1 + ((2 : Int32))) fun x143 =>
          vC (13, 157) M140 x4 <|
          cI (rec 261 [va_rf x4, .int x142, .int x143] M140) fun x145 M144 =>
          if x141 = x145 then (
            j1569 M144) else (
            rtZ ((0 : Int32)) M144))),
       ((16 : Int32), (
          alI 100 s7.2 a0 (s7.1 + ((1 : Int32))) fun x146 =>
          vC (12, 19) s7.2 x1 <|
          cI (rec 144 [va_rf x1, .int x146] s7.2) fun x148 M147 =>
          alI 100 M147 a0 (s7.1 + ((1 : Int32))) fun x149 =>
          vC (13, 157) M147 x4 <|
          cI (rec 262 [va_rf x4, .int x149] M147) fun x151 M150 =>
          if x148 = x151 then (
            j1569 M150) else (
            rtZ ((0 : Int32)) M150))),
       ((17 : Int32), (
          alI 100 s7.2 a0 (s7.1 + ((1 : Int32))) fun x152 =>
          alI 100 s7.2 a0 (s7.1 + ((2 : Int32))) fun x153 =>
          vC (12, 19) s7.2 x1 <|
          cI (rec 145 [va_rf x1, .int x152, .int x153] s7.2) fun x155 M154 =>
          alI 100 M154 a0 (s7.1 + ((1 : Int32))) fun x156 =>
          alI 100 M154 a0 (s7.1 + ((2 : Int32))) fun x157 =>
          vC (13, 157) M154 x4 <|
          cI (rec 273 [va_rf x4, .int x156, .int x157] M154) fun x159 M158 =>
          if x155 = x159 then (
            j1569 M158) else (
            rtZ ((0 : Int32)) M158))),
       ((18 : Int32), (
          alI 100 s7.2 a0 (s7.1 + ((1 : Int32))) fun x160 =>
          alI 100 s7.2 a0 (s7.1 + ((2 : Int32))) fun x161 =>
          alI 100 s7.2 a0 (s7.1 + ((3 : Int32))) fun x162 =>
          alI 100 s7.2 a0 (s7.1 + ((4 : Int32))) fun x163 =>
          jn (fun (s164 : Int32) =>
            alI 100 s7.2 a0 (s7.1 + ((5 : Int32))) fun x165 =>
            vC (12, 19) s7.2 x1 <|
            cI (rec 146 [va_rf x1, .int x160, .int x161, .int x162, .int s164, .int x165] s7.2) fun x167 M166 =>
            alI 100 M166 a0 (s7.1 + ((1 : Int32))) fun x168 =>
            alI 100 M166 a0 (s7.1 + ((2 : Int32))) fun x169 =>
            alI 100 M166 a0 (s7.1 + ((3 : Int32))) fun x170 =>
            alI 100 M166 a0 (s7.1 + ((4 : Int32))) fun x171 =>
            jn (fun (s172 : Int32) =>
              alI 100 M166 a0 (s7.1 + ((5 : Int32))) fun x173 =>
              vC (13, 157) M166 x4 <|
              cI (rec 275 [va_rf x4, .int x168, .int x169, .int x170, .int s172, .int x173] M166) fun x175 M174 =>
              if x167 = x175 then (
                j1569 M174) else (
                rtZ ((0 : Int32)) M174)) fun j884 =>
            if x171 = 0 then (
              j884 ((0 : Int32))) else (
              j884 ((1 : Int32)))) fun j847 =>
          if x163 = 0 then (
            j847 ((0 : Int32))) else (
            j847 ((1 : Int32))))),
       ((19 : Int32), (
          alI 100 s7.2 a0 (s7.1 + ((1 : Int32))) fun x176 =>
          vC (12, 19) s7.2 x1 <|
          cI (rec 147 [va_rf x1, .int x176] s7.2) fun x178 M177 =>
          alI 100 M177 a0 (s7.1 + ((1 : Int32))) fun x179 =>
          vC (13, 157) M177 x4 <|
          cI (rec 276 [va_rf x4, .int x179] M177) fun x181 M180 =>
          if x178 = x181 then (
            j1569 M180) else (
            rtZ ((0 : Int32)) M180))),
       ((20 : Int32), (
          alI 100 s7.2 a0 (s7.1 + ((1 : Int32))) fun x182 =>
          alI 100 s7.2 a0 (s7.1 + ((2 : Int32))) fun x183 =>
          alI 100 s7.2 a0 (s7.1 + ((3 : Int32))) fun x184 =>
          vC (12, 19) s7.2 x1 <|
          cI (rec 148 [va_rf x1, .int x182, .int x183, .int x184] s7.2) fun x186 M185 =>
          alI 100 M185 a0 (s7.1 + ((1 : Int32))) fun x187 =>
          alI 100 M185 a0 (s7.1 + ((2 : Int32))) fun x188 =>
          alI 100 M185 a0 (s7.1 + ((3 : Int32))) fun x189 =>
          vC (13, 157) M185 x4 <|
          cI (rec 280 [va_rf x4, .int x187, .int x188, .int x189] M185) fun x191 M190 =>
          if x186 = x191 then (
            j1569 M190) else (
            rtZ ((0 : Int32)) M190))),
       ((21 : Int32), (
          alI 100 s7.2 a0 (s7.1 + ((1 : Int32))) fun x192 =>
          alI 100 s7.2 a0 (s7.1 + ((2 : Int32))) fun x193 =>
          alI 100 s7.2 a0 (s7.1 + ((3 : Int32))) fun x194 =>
          vC (12, 19) s7.2 x1 <|
          cI (rec 149 [va_rf x1, .int x192, .int x193, .int x194] s7.2) fun x196 M195 =>
          alI 100 M195 a0 (s7.1 + ((1 : Int32))) fun x197 =>
          alI 100 M195 a0 (s7.1 + ((2 : Int32))) fun x198 =>
          alI 100 M195 a0 (s7.1 + ((3 : Int32))) fun x199 =>
          vC (13, 157) M195 x4 <|
          cI (rec 281 [va_rf x4, .int x197, .int x198, .int x199] M195) fun x201 M200 =>
          if x196 = x201 then (
            j1569 M200) else (
            rtZ ((0 : Int32)) M200))),
       ((22 : Int32), (
          alI 100 s7.2 a0 (s7.1 + ((1 : Int32))) fun x202 =>
          vC (12, 19) s7.2 x1 <|
          cI (rec 150 [va_rf x1, .int x202] s7.2) fun x204 M203 =>
          alI 100 M203 a0 (s7.1 + ((1 : Int32))) fun x205 =>
          vC (13, 157) M203 x4 <|
          cI (rec 283 [va_rf x4, .int x205] M203) fun x207 M206 =>
          if x204 = x207 then (
            j1569 M206) else (
            rtZ ((0 : Int32)) M206))),
       ((23 : Int32), (
          alI 100 s7.2 a0 (s7.1 + ((1 : Int32))) fun x208 =>
          alI 100 s7.2 a0 (s7.1 + ((2 : Int32))) fun x209 =>
          alI 100 s7.2 a0 (s7.1 + ((3 : Int32))) fun x210 =>
          vC (12, 19) s7.2 x1 <|
          cI (rec 151 [va_rf x1, .int x208, .int x209, .int x210] s7.2) fun x212 M211 =>
          alI 100 M211 a0 (s7.1 + ((1 : Int32))) fun x213 =>
          alI 100 M211 a0 (s7.1 + ((2 : Int32))) fun x214 =>
          alI 100 M211 a0 (s7.1 + ((3 : Int32))) fun x215 =>
          vC (13, 157) M211 x4 <|
          cI (rec 286 [va_rf x4, .int x213, .int x214, .int x215] M211) fun x217 M216 =>
          if x212 = x217 then (
            j1569 M216) else (
            rtZ ((0 : Int32)) M216))),
       ((24 : Int32), (
          alI 100 s7.2 a0 (s7.1 + ((1 : Int32))) fun x218 =>
          alI 100 s7.2 a0 (s7.1 + ((2 : Int32))) fun x219 =>
          vC (12, 19) s7.2 x1 <|
          cI (rec 152 [va_rf x1, .int x218, .int x219] s7.2) fun x221 M220 =>
          alI 100 M220 a0 (s7.1 + ((1 : Int32))) fun x222 =>
          alI 100 M220 a0 (s7.1 + ((2 : Int32))) fun x223 =>
          vC (13, 157) M220 x4 <|
          cI (rec 287 [va_rf x4, .int x222, .int x223] M220) fun x225 M224 =>
          if x221 = x225 then (
            j1569 M224) else (
            rtZ ((0 : Int32)) M224))),
       ((25 : Int32), (
          alI 100 s7.2 a0 (s7.1 + ((1 : Int32))) fun x226 =>
          alI 100 s7.2 a0 (s7.1 + ((2 : Int32))) fun x227 =>
          alI 100 s7.2 a0 (s7.1 + ((3 : Int32))) fun x228 =>
          vC (12, 19) s7.2 x1 <|
          cI (rec 153 [va_rf x1, .int x226, .int x227, .int x228] s7.2) fun x230 M229 =>
          alI 100 M229 a0 (s7.1 + ((1 : Int32))) fun x231 =>
          alI 100 M229 a0 (s7.1 + ((2 : Int32))) fun x232 =>
          alI 100 M229 a0 (s7.1 + ((3 : Int32))) fun x233 =>
          vC (13, 157) M229 x4 <|
          cI (rec 289 [va_rf x4, .int x231, .int x232, .int x233] M229) fun x235 M234 =>
          if x230 = x235 then (
            j1569 M234) else (
            rtZ ((0 : Int32)) M234))),
       ((26 : Int32), (
          alI 100 s7.2 a0 (s7.1 + ((1 : Int32))) fun x236 =>
          vC (12, 19) s7.2 x1 <|
          cI (rec 154 [va_rf x1, .int x236] s7.2) fun x238 M237 =>
          alI 100 M237 a0 (s7.1 + ((1 : Int32))) fun x239 =>
          vC (13, 157) M237 x4 <|
          cI (rec 290 [va_rf x4, .int x239] M237) fun x241 M240 =>
          if x238 = x241 then (
            j1569 M240) else (
            rtZ ((0 : Int32)) M240))),
       ((27 : Int32), (
          alI 100 s7.2 a0 (s7.1 + ((1 : Int32))) fun x242 =>
          alI 100 s7.2 a0 (s7.1 + ((2 : Int32))) fun x243 =>
          vC (12, 19) s7.2 x1 <|
          cI (rec 155 [va_rf x1, .int x242, .int x243] s7.2) fun x245 M244 =>
          alI 100 M244 a0 (s7.1 + ((1 : Int32))) fun x246 =>
          alI 100 M244 a0 (s7.1 + ((2 : Int32))) fun x247 =>
          vC (13, 157) M244 x4 <|
          cI (rec 292 [va_rf x4, .int x246, .int x247] M244) fun x249 M248 =>
          if x245 = x249 then (
            j1569 M248) else (
            rtZ ((0 : Int32)) M248))),
       ((28 : Int32), (
          alI 100 s7.2 a0 (s7.1 + ((1 : Int32))) fun x250 =>
          vC (12, 19) s7.2 x1 <|
          cI (rec 156 [va_rf x1, .int x250] s7.2) fun x252 M251 =>
          alI 100 M251 a0 (s7.1 + ((1 : Int32))) fun x253 =>
          vC (13, 157) M251 x4 <|
          cI (rec 293 [va_rf x4, .int x253] M251) fun x255 M254 =>
          if x252 = x255 then (
            j1569 M254) else (
            rtZ ((0 : Int32)) M254))),
       ((29 : Int32), (
          alI 100 s7.2 a0 (s7.1 + ((1 : Int32))) fun x256 =>
          alI 100 s7.2 a0 (s7.1 + ((2 : Int32))) fun x257 =>
          alI 100 s7.2 a0 (s7.1 + ((3 : Int32))) fun x258 =>
          alI 100 s7.2 a0 (s7.1 + ((4 : Int32))) fun x259 =>
          alI 100 s7.2 a0 (s7.1 + ((5 : Int32))) fun x260 =>
          alI 100 s7.2 a0 (s7.1 + ((6 : Int32))) fun x261 =>
          vC (12, 19) s7.2 x1 <|
          cI (rec 157 [va_rf x1, .int x256, .int x257, .int x258, .int x259, .int x260, .int x261] s7.2) fun x263 M262 =>
          alI 100 M262 a0 (s7.1 + ((1 : Int32))) fun x264 =>
          alI 100 M262 a0 (s7.1 + ((2 : Int32))) fun x265 =>
          alI 100 M262 a0 (s7.1 + ((3 : Int32))) fun x266 =>
          alI 100 M262 a0 (s7.1 + ((4 : Int32))) fun x267 =>
          alI 100 M262 a0 (s7.1 + ((5 : Int32))) fun x268 =>
          alI 100 M262 a0 (s7.1 + ((6 : Int32))) fun x269 =>
          vC (13, 157) M262 x4 <|
          cI (rec 294 [va_rf x4, .int x264, .int x265, .int x266, .int x267, .int x268, .int x269] M262) fun x271 M270 =>
          if x263 = x271 then (
            j1569 M270) else (
            rtZ ((0 : Int32)) M270))),
       ((30 : Int32), (
          alI 100 s7.2 a0 (s7.1 + ((1 : Int32))) fun x272 =>
          vC (12, 19) s7.2 x1 <|
          cI (rec 158 [va_rf x1, .int x272] s7.2) fun x274 M273 =>
          alI 100 M273 a0 (s7.1 + ((1 : Int32))) fun x275 =>
          vC (13, 157) M273 x4 <|
          cI (rec 298 [va_rf x4, .int x275] M273) fun x277 M276 =>
          if x274 = x277 then (
            j1569 M276) else (
            rtZ ((0 : Int32)) M276))),
       ((31 : Int32), (
          alI 100 s7.2 a0 (s7.1 + ((1 : Int32))) fun x278 =>
          alI 100 s7.2 a0 (s7.1 + ((2 : Int32))) fun x279 =>
          vC (12, 19) s7.2 x1 <|
          cI (rec 159 [va_rf x1, .int x278, .int x279] s7.2) fun x281 M280 =>
          alI 100 M280 a0 (s7.1 + ((1 : Int32))) fun x282 =>
          alI 100 M280 a0 (s7.1 + ((2 : Int32))) fun x283 =>
          vC (13, 157) M280 x4 <|
          cI (rec 299 [va_rf x4, .int x282, .int x283] M280) fun x285 M284 =>
          if x281 = x285 then (
            j1569 M284) else (
            rtZ ((0 : Int32)) M284))),
       ((32 : Int32), (
          alI 100 s7.2 a0 (s7.1 + ((1 : Int32))) fun x286 =>
          alI 100 s7.2 a0 (s7.1 + ((2 : Int32))) fun x287 =>
          vC (12, 19) s7.2 x1 <|
          cI (rec 160 [va_rf x1, .int x286, .int x287] s7.2) fun x289 M288 =>
          alI 100 M288 a0 (s7.1 + ((1 : Int32))) fun x290 =>
          alI 100 M288 a0 (s7.1 + ((2 : Int32))) fun x291 =>
          vC (13, 157) M288 x4 <|
          cI (rec 301 [va_rf x4, .int x290, .int x291] M288) fun x293 M292 =>
          if x289 = x293 then (
            j1569 M292) else (
            rtZ ((0 : Int32)) M292))),
       ((33 : Int32), (
          alI 100 s7.2 a0 (s7.1 + ((1 : Int32))) fun x294 =>
          vC (12, 19) s7.2 x1 <|
          cI (rec 161 [va_rf x1, .int x294] s7.2) fun x296 M295 =>
          alI 100 M295 a0 (s7.1 + ((1 : Int32))) fun x297 =>
          vC (13, 157) M295 x4 <|
          cI (rec 302 [va_rf x4, .int x297] M295) fun x299 M298 =>
          if x296 = x299 then (
            j1569 M298) else (
            rtZ ((0 : Int32)) M298))),
       ((34 : Int32), (
          alI 100 s7.2 a0 (s7.1 + ((1 : Int32))) fun x300 =>
          alI 100 s7.2 a0 (s7.1 + ((2 : Int32))) fun x301 =>
          vC (12, 19) s7.2 x1 <|
          cI (rec 162 [va_rf x1, .int x300, .int x301] s7.2) fun x303 M302 =>
          alI 100 M302 a0 (s7.1 + ((1 : Int32))) fun x304 =>
          alI 100 M302 a0 (s7.1 + ((2 : Int32))) fun x305 =>
          vC (13, 157) M302 x4 <|
          cI (rec 304 [va_rf x4, .int x304, .int x305] M302) fun x307 M306 =>
          if x303 = x307 then (
            j1569 M306) else (
            rtZ ((0 : Int32)) M306))),
       ((35 : Int32), (
          alI 100 s7.2 a0 (s7.1 + ((1 : Int32))) fun x308 =>
          vC (12, 19) s7.2 x1 <|
          cI (rec 163 [va_rf x1, .int x308] s7.2) fun x310 M309 =>
          alI 100 M309 a0 (s7.1 + ((1 : Int32))) fun x311 =>
          vC (13, 157) M309 x4 <|
          cI (rec 305 [va_rf x4, .int x311] M309) fun x313 M312 =>
          if x310 = x313 then (
            j1569 M312) else (
            rtZ ((0 : Int32)) M312))),
       ((36 : Int32), (
          alI 100 s7.2 a0 (s7.1 + ((1 : Int32))) fun x314 =>
          alI 100 s7.2 a0 (s7.1 + ((2 : Int32))) fun x315 =>
          vC (12, 19) s7.2 x1 <|
          cI (rec 164 [va_rf x1, .int x314, .int x315] s7.2) fun x317 M316 =>
          alI 100 M316 a0 (s7.1 + ((1 : Int32))) fun x318 =>
          alI 100 M316 a0 (s7.1 + ((2 : Int32))) fun x319 =>
          vC (13, 157) M316 x4 <|
          cI (rec 306 [va_rf x4, .int x318, .int x319] M316) fun x321 M320 =>
          if x317 = x321 then (
            j1569 M320) else (
            rtZ ((0 : Int32)) M320))),
       ((37 : Int32), (
          alI 100 s7.2 a0 (s7.1 + ((1 : Int32))) fun x322 =>
          alI 100 s7.2 a0 (s7.1 + ((2 : Int32))) fun x323 =>
          vC (12, 19) s7.2 x1 <|
          cI (rec 165 [va_rf x1, .int x322, .int x323] s7.2) fun x325 M324 =>
          alI 100 M324 a0 (s7.1 + ((1 : Int32))) fun x326 =>
          alI 100 M324 a0 (s7.1 + ((2 : Int32))) fun x327 =>
          vC (13, 157) M324 x4 <|
          cI (rec 308 [va_rf x4, .int x326, .int x327] M324) fun x329 M328 =>
          if x325 = x329 then (
            j1569 M328) else (
            rtZ ((0 : Int32)) M328))),
       ((38 : Int32), (
          alI 100 s7.2 a0 (s7.1 + ((1 : Int32))) fun x330 =>
          alI 100 s7.2 a0 (s7.1 + ((2 : Int32))) fun x331 =>
          vC (12, 19) s7.2 x1 <|
          cI (rec 166 [va_rf x1, .int x330, .int x331] s7.2) fun x333 M332 =>
          alI 100 M332 a0 (s7.1 + ((1 : Int32))) fun x334 =>
          alI 100 M332 a0 (s7.1 + ((2 : Int32))) fun x335 =>
          vC (13, 157) M332 x4 <|
          cI (rec 309 [va_rf x4, .int x334, .int x335] M332) fun x337 M336 =>
          if x333 = x337 then (
            j1569 M336) else (
            rtZ ((0 : Int32)) M336)))] (
        j1569 s7.2))) 4294967296 ((0 : Int32), M6)
set_option maxRecDepth 100000 in
set_option maxHeartbeats 8000000 in
theorem kLaw {S : XS} {G : XG} {K : Nat × Nat} {l : Launch} {d : Nat} {rec : Nat → List Value → Mem → XA} {nm : String} (hs : XSnd l xmt rec d) (a0 : Option Nat) (M0 : Mem) : Xe S G K l ((⟨RL, nm, "([I)Z"⟩ : MethodName), cL_law, 4, some .boolean) d 0 [some (va_rf a0), none, none, none] [] M0 (cLaw rec a0 M0) := by
  unfold cLaw
  refine nwL_7 rfl dL_law_0 (fun x1 M2 => ?_)
  refine x_dup dL_law_3 (xc1_r _) ?_
  refine cmL_9 rfl hs (Nat.le_of_ble_eq_true rfl) dL_law_4 (fun M3 => ?_)
  refine x_astore_n (lo' := [some (va_rf a0), some (va_rf x1), none, none]) dL_law_7 (Nat.le_of_ble_eq_true rfl) (xok_r rfl) rfl ?_
  refine nwL_10 rfl dL_law_8 (fun x4 M5 => ?_)
  refine x_dup dL_law_11 (xc1_r _) ?_
  refine cmL_12 rfl hs (Nat.le_of_ble_eq_true rfl) dL_law_12 (fun M6 => ?_)
  refine x_astore_n (lo' := [some (va_rf a0), some (va_rf x1), some (va_rf x4), none]) dL_law_15 (Nat.le_of_ble_eq_true rfl) (xok_r rfl) rfl ?_
  refine x_iconst (v := 0) dL_law_16 (by decide) ?_
  refine x_istore_n (lo' := [some (va_rf a0), some (va_rf x1), some (va_rf x4), some (.int ((0 : Int32)))]) dL_law_17 (Nat.le_of_ble_eq_true rfl) (xok_r rfl) rfl ?_
  refine x_weak (by exact ⟨rfl, ⟨rfl, ⟨rfl, ⟨rfl, trivial⟩⟩⟩⟩) (x_lp (σ := Int32 × Mem) 18 (fun s7 => [some (va_rf a0), some (va_rf x1), some (va_rf x4), some (.int s7.1)]) (fun s7 => []) (fun s7 => s7.2) (fun s7 j18 hj18 => ?_) 4294967296 ((0 : Int32), M6))
  · refine x_iload_n dL_law_18 rfl ?_
    refine x_aload_n dL_law_19 rfl ?_
    refine x_alen dL_law_20 (fun x8 => ?_)
    refine x_bipush (v := 7) dL_law_21 (by decide) ?_
    refine x_isub dL_law_23 ?_
    refine x_icmp_gt (tgt := 1575) dL_law_24 (by decide) (fun _ => ?_) (fun _ => ?_)
    · refine x_iconst (v := 1) dL_law_1575 (by decide) ?_
      exact x_zret rfl dL_law_1576
    · refine x_aload_n dL_law_27 rfl ?_
      refine x_iload_n dL_law_28 rfl ?_
      refine x_iald dL_law_29 (fun x9 => ?_)
      refine x_bipush (v := 63) dL_law_30 (by decide) ?_
      refine x_iand dL_law_32 ?_
      refine x_jn (σ := Mem) 1569 (fun s10 => [some (va_rf a0), some (va_rf x1), some (va_rf x4), some (.int s7.1)]) (fun s10 => []) (fun s10 => s10) (fun s10 => ?_) (fun j1569 hj1569 => ?_)
      · refine x_iincN (v := 7) (lo' := fun x11 => [some (va_rf a0), some (va_rf x1), some (va_rf x4), some (.int x11)]) (by decide) dL_law_1569 rfl (Nat.le_of_ble_eq_true rfl) (xok_r rfl) (fun _ => rfl) (fun x11 => ?_)
        refine x_goto (tgt := 18) dL_law_1572 (by decide) ?_
        exact x_weak (by exact ⟨rfl, ⟨rfl, ⟨rfl, ⟨rfl, trivial⟩⟩⟩⟩) (hj18 (x11, s10))
      refine x_table (tgt := 1569) dL_law_33 [(0, 204), (1, 267), (2, 290), (3, 303), (4, 316), (5, 349), (6, 392), (7, 435), (8, 488), (9, 531), (10, 554), (11, 577), (12, 620), (13, 643), (14, 686), (15, 729), (16, 762), (17, 785), (18, 818), (19, 897), (20, 920), (21, 963), (22, 1006), (23, 1029), (24, 1072), (25, 1105), (26, 1148), (27, 1171), (28, 1204), (29, 1227), (30, 1302), (31, 1325), (32, 1358), (33, 1391), (34, 1414), (35, 1447), (36, 1470), (37, 1503), (38, 1536)] (by decide +kernel) (by decide +kernel) (by decide) ?_ ?_
      · refine swG_d (by decide) ?_ (swG_d (by decide) ?_ (swG_d (by decide) ?_ (swG_d (by decide) ?_ (swG_d (by decide) ?_ (swG_d (by decide) ?_ (swG_d (by decide) ?_ (swG_d (by decide) ?_ (swG_d (by decide) ?_ (swG_d (by decide) ?_ (swG_d (by decide) ?_ (swG_d (by decide) ?_ (swG_d (by decide) ?_ (swG_d (by decide) ?_ (swG_d (by decide) ?_ (swG_d (by decide) ?_ (swG_d (by decide) ?_ (swG_d (by decide) ?_ (swG_d (by decide) ?_ (swG_d (by decide) ?_ (swG_d (by decide) ?_ (swG_d (by decide) ?_ (swG_d (by decide) ?_ (swG_d (by decide) ?_ (swG_d (by decide) ?_ (swG_d (by decide) ?_ (swG_d (by decide) ?_ (swG_d (by decide) ?_ (swG_d (by decide) ?_ (swG_d (by decide) ?_ (swG_d (by decide) ?_ (swG_d (by decide) ?_ (swG_d (by decide) ?_ (swG_d (by decide) ?_ (swG_d (by decide) ?_ (swG_d (by decide) ?_ (swG_d (by decide) ?_ (swG_d (by decide) ?_ (swG_d (by decide) ?_ (trivial)))))))))))))))))))))))))))))))))))))))
        · refine x_aload_n dL_law_204 rfl ?_
          refine x_aload_n dL_law_205 rfl ?_
          refine x_iload_n dL_law_206 rfl ?_
          refine x_iconst (v := 1) dL_law_207 (by decide) ?_
          refine x_iadd dL_law_208 ?_
          refine x_iald dL_law_209 (fun x12 => ?_)
          refine x_aload_n dL_law_210 rfl ?_
          refine x_iload_n dL_law_211 rfl ?_
          refine x_iconst (v := 2) dL_law_212 (by decide) ?_
          refine x_iadd dL_law_213 ?_
          refine x_iald dL_law_214 (fun x13 => ?_)
          refine x_aload_n dL_law_215 rfl ?_
          refine x_iload_n dL_law_216 rfl ?_
          refine x_iconst (v := 3) dL_law_217 (by decide) ?_
          refine x_iadd dL_law_218 ?_
          refine x_iald dL_law_219 (fun x14 => ?_)
          refine x_aload_n dL_law_220 rfl ?_
          refine x_iload_n dL_law_221 rfl ?_
          refine x_iconst (v := 4) dL_law_222 (by decide) ?_
          refine x_iadd dL_law_223 ?_
          refine x_iald dL_law_224 (fun x15 => ?_)
          refine x_aload_n dL_law_225 rfl ?_
          refine x_iload_n dL_law_226 rfl ?_
          refine x_iconst (v := 5) dL_law_227 (by decide) ?_
          refine x_iadd dL_law_228 ?_
          refine x_iald dL_law_229 (fun x16 => ?_)
          refine cmL_13 rfl hs (Nat.le_of_ble_eq_true rfl) dL_law_230 (fun x18 M17 => ?_)
          refine x_aload_n dL_law_233 rfl ?_
          refine x_aload_n dL_law_234 rfl ?_
          refine x_iload_n dL_law_235 rfl ?_
          refine x_iconst (v := 1) dL_law_236 (by decide) ?_
          refine x_iadd dL_law_237 ?_
          refine x_iald dL_law_238 (fun x19 => ?_)
          refine x_aload_n dL_law_239 rfl ?_
          refine x_iload_n dL_law_240 rfl ?_
          refine x_iconst (v := 2) dL_law_241 (by decide) ?_
          refine x_iadd dL_law_242 ?_
          refine x_iald dL_law_243 (fun x20 => ?_)
          refine x_aload_n dL_law_244 rfl ?_
          refine x_iload_n dL_law_245 rfl ?_
          refine x_iconst (v := 3) dL_law_246 (by decide) ?_
          refine x_iadd dL_law_247 ?_
          refine x_iald dL_law_248 (fun x21 => ?_)
          refine x_aload_n dL_law_249 rfl ?_
          refine x_iload_n dL_law_250 rfl ?_
          refine x_iconst (v := 4) dL_law_251 (by decide) ?_
          refine x_iadd dL_law_252 ?_
          refine x_iald dL_law_253 (fun x22 => ?_)
          refine x_aload_n dL_law_254 rfl ?_
          refine x_iload_n dL_law_255 rfl ?_
          refine x_iconst (v := 5) dL_law_256 (by decide) ?_
          refine x_iadd dL_law_257 ?_
          refine x_iald dL_law_258 (fun x23 => ?_)
          refine cmL_17 rfl hs (Nat.le_of_ble_eq_true rfl) dL_law_259 (fun x25 M24 => ?_)
          refine x_icmp_eq (tgt := 1569) dL_law_262 (by decide) (fun _ => ?_) (fun _ => ?_)
          · exact x_weak (by exact ⟨rfl, ⟨rfl, ⟨rfl, ⟨rfl, trivial⟩⟩⟩⟩) (hj1569 M24)
          · refine x_iconst (v := 0) dL_law_265 (by decide) ?_
            exact x_zret rfl dL_law_266
        · refine x_aload_n dL_law_267 rfl ?_
          refine x_aload_n dL_law_268 rfl ?_
          refine x_iload_n dL_law_269 rfl ?_
          refine x_iconst (v := 1) dL_law_270 (by decide) ?_
          refine x_iadd dL_law_271 ?_
          refine x_iald dL_law_272 (fun x26 => ?_)
          refine cmL_18 rfl hs (Nat.le_of_ble_eq_true rfl) dL_law_273 (fun x28 M27 => ?_)
          refine x_aload_n dL_law_276 rfl ?_
          refine x_aload_n dL_law_277 rfl ?_
          refine x_iload_n dL_law_278 rfl ?_
          refine x_iconst (v := 1) dL_law_279 (by decide) ?_
          refine x_iadd dL_law_280 ?_
          refine x_iald dL_law_281 (fun x29 => ?_)
          refine cmL_22 rfl hs (Nat.le_of_ble_eq_true rfl) dL_law_282 (fun x31 M30 => ?_)
          refine x_icmp_eq (tgt := 1569) dL_law_285 (by decide) (fun _ => ?_) (fun _ => ?_)
          · exact x_weak (by exact ⟨rfl, ⟨rfl, ⟨rfl, ⟨rfl, trivial⟩⟩⟩⟩) (hj1569 M30)
          · refine x_iconst (v := 0) dL_law_288 (by decide) ?_
            exact x_zret rfl dL_law_289
        · refine x_aload_n dL_law_290 rfl ?_
          refine cmL_23 rfl hs (Nat.le_of_ble_eq_true rfl) dL_law_291 (fun x33 M32 => ?_)
          refine x_aload_n dL_law_294 rfl ?_
          refine cmL_27 rfl hs (Nat.le_of_ble_eq_true rfl) dL_law_295 (fun x35 M34 => ?_)
          refine x_icmp_eq (tgt := 1569) dL_law_298 (by decide) (fun _ => ?_) (fun _ => ?_)
          · exact x_weak (by exact ⟨rfl, ⟨rfl, ⟨rfl, ⟨rfl, trivial⟩⟩⟩⟩) (hj1569 M34)
          · refine x_iconst (v := 0) dL_law_301 (by decide) ?_
            exact x_zret rfl dL_law_302
        · refine x_aload_n dL_law_303 rfl ?_
          refine cmL_28 rfl hs (Nat.le_of_ble_eq_true rfl) dL_law_304 (fun x37 M36 => ?_)
          refine x_aload_n dL_law_307 rfl ?_
          refine cmL_31 rfl hs (Nat.le_of_ble_eq_true rfl) dL_law_308 (fun x39 M38 => ?_)
          refine x_icmp_eq (tgt := 1569) dL_law_311 (by decide) (fun _ => ?_) (fun _ => ?_)
          · exact x_weak (by exact ⟨rfl, ⟨rfl, ⟨rfl, ⟨rfl, trivial⟩⟩⟩⟩) (hj1569 M38)
          · refine x_iconst (v := 0) dL_law_314 (by decide) ?_
            exact x_zret rfl dL_law_315
        · refine x_aload_n dL_law_316 rfl ?_
          refine x_aload_n dL_law_317 rfl ?_
          refine x_iload_n dL_law_318 rfl ?_
          refine x_iconst (v := 1) dL_law_319 (by decide) ?_
          refine x_iadd dL_law_320 ?_
          refine x_iald dL_law_321 (fun x40 => ?_)
          refine x_aload_n dL_law_322 rfl ?_
          refine x_iload_n dL_law_323 rfl ?_
          refine x_iconst (v := 2) dL_law_324 (by decide) ?_
          refine x_iadd dL_law_325 ?_
          refine x_iald dL_law_326 (fun x41 => ?_)
          refine cmL_32 rfl hs (Nat.le_of_ble_eq_true rfl) dL_law_327 (fun x43 M42 => ?_)
          refine x_aload_n dL_law_330 rfl ?_
          refine x_aload_n dL_law_331 rfl ?_
          refine x_iload_n dL_law_332 rfl ?_
          refine x_iconst (v := 1) dL_law_333 (by decide) ?_
          refine x_iadd dL_law_334 ?_
          refine x_iald dL_law_335 (fun x44 => ?_)
          refine x_aload_n dL_law_336 rfl ?_
          refine x_iload_n dL_law_337 rfl ?_
          refine x_iconst (v := 2) dL_law_338 (by decide) ?_
          refine x_iadd dL_law_339 ?_
          refine x_iald dL_law_340 (fun x45 => ?_)
          refine cmL_36 rfl hs (Nat.le_of_ble_eq_true rfl) dL_law_341 (fun x47 M46 => ?_)
          refine x_icmp_eq (tgt := 1569) dL_law_344 (by decide) (fun _ => ?_) (fun _ => ?_)
          · exact x_weak (by exact ⟨rfl, ⟨rfl, ⟨rfl, ⟨rfl, trivial⟩⟩⟩⟩) (hj1569 M46)
          · refine x_iconst (v := 0) dL_law_347 (by decide) ?_
            exact x_zret rfl dL_law_348
        · refine x_aload_n dL_law_349 rfl ?_
          refine x_aload_n dL_law_350 rfl ?_
          refine x_iload_n dL_law_351 rfl ?_
          refine x_iconst (v := 1) dL_law_352 (by decide) ?_
          refine x_iadd dL_law_353 ?_
          refine x_iald dL_law_354 (fun x48 => ?_)
          refine x_aload_n dL_law_355 rfl ?_
          refine x_iload_n dL_law_356 rfl ?_
          refine x_iconst (v := 2) dL_law_357 (by decide) ?_
          refine x_iadd dL_law_358 ?_
          refine x_iald dL_law_359 (fun x49 => ?_)
          refine x_aload_n dL_law_360 rfl ?_
          refine x_iload_n dL_law_361 rfl ?_
          refine x_iconst (v := 3) dL_law_362 (by decide) ?_
          refine x_iadd dL_law_363 ?_
          refine x_iald dL_law_364 (fun x50 => ?_)
          refine cmL_37 rfl hs (Nat.le_of_ble_eq_true rfl) dL_law_365 (fun x52 M51 => ?_)
          refine x_aload_n dL_law_368 rfl ?_
          refine x_aload_n dL_law_369 rfl ?_
          refine x_iload_n dL_law_370 rfl ?_
          refine x_iconst (v := 1) dL_law_371 (by decide) ?_
          refine x_iadd dL_law_372 ?_
          refine x_iald dL_law_373 (fun x53 => ?_)
          refine x_aload_n dL_law_374 rfl ?_
          refine x_iload_n dL_law_375 rfl ?_
          refine x_iconst (v := 2) dL_law_376 (by decide) ?_
          refine x_iadd dL_law_377 ?_
          refine x_iald dL_law_378 (fun x54 => ?_)
          refine x_aload_n dL_law_379 rfl ?_
          refine x_iload_n dL_law_380 rfl ?_
          refine x_iconst (v := 3) dL_law_381 (by decide) ?_
          refine x_iadd dL_law_382 ?_
          refine x_iald dL_law_383 (fun x55 => ?_)
          refine cmL_41 rfl hs (Nat.le_of_ble_eq_true rfl) dL_law_384 (fun x57 M56 => ?_)
          refine x_icmp_eq (tgt := 1569) dL_law_387 (by decide) (fun _ => ?_) (fun _ => ?_)
          · exact x_weak (by exact ⟨rfl, ⟨rfl, ⟨rfl, ⟨rfl, trivial⟩⟩⟩⟩) (hj1569 M56)
          · refine x_iconst (v := 0) dL_law_390 (by decide) ?_
            exact x_zret rfl dL_law_391
        · refine x_aload_n dL_law_392 rfl ?_
          refine x_aload_n dL_law_393 rfl ?_
          refine x_iload_n dL_law_394 rfl ?_
          refine x_iconst (v := 1) dL_law_395 (by decide) ?_
          refine x_iadd dL_law_396 ?_
          refine x_iald dL_law_397 (fun x58 => ?_)
          refine x_aload_n dL_law_398 rfl ?_
          refine x_iload_n dL_law_399 rfl ?_
          refine x_iconst (v := 2) dL_law_400 (by decide) ?_
          refine x_iadd dL_law_401 ?_
          refine x_iald dL_law_402 (fun x59 => ?_)
          refine x_aload_n dL_law_403 rfl ?_
          refine x_iload_n dL_law_404 rfl ?_
          refine x_iconst (v := 3) dL_law_405 (by decide) ?_
          refine x_iadd dL_law_406 ?_
          refine x_iald dL_law_407 (fun x60 => ?_)
          refine cmL_42 rfl hs (Nat.le_of_ble_eq_true rfl) dL_law_408 (fun x62 M61 => ?_)
          refine x_aload_n dL_law_411 rfl ?_
          refine x_aload_n dL_law_412 rfl ?_
          refine x_iload_n dL_law_413 rfl ?_
          refine x_iconst (v := 1) dL_law_414 (by decide) ?_
          refine x_iadd dL_law_415 ?_
          refine x_iald dL_law_416 (fun x63 => ?_)
          refine x_aload_n dL_law_417 rfl ?_
          refine x_iload_n dL_law_418 rfl ?_
          refine x_iconst (v := 2) dL_law_419 (by decide) ?_
          refine x_iadd dL_law_420 ?_
          refine x_iald dL_law_421 (fun x64 => ?_)
          refine x_aload_n dL_law_422 rfl ?_
          refine x_iload_n dL_law_423 rfl ?_
          refine x_iconst (v := 3) dL_law_424 (by decide) ?_
          refine x_iadd dL_law_425 ?_
          refine x_iald dL_law_426 (fun x65 => ?_)
          refine cmL_45 rfl hs (Nat.le_of_ble_eq_true rfl) dL_law_427 (fun x67 M66 => ?_)
          refine x_icmp_eq (tgt := 1569) dL_law_430 (by decide) (fun _ => ?_) (fun _ => ?_)
          · exact x_weak (by exact ⟨rfl, ⟨rfl, ⟨rfl, ⟨rfl, trivial⟩⟩⟩⟩) (hj1569 M66)
          · refine x_iconst (v := 0) dL_law_433 (by decide) ?_
            exact x_zret rfl dL_law_434
        · refine x_aload_n dL_law_435 rfl ?_
          refine x_aload_n dL_law_436 rfl ?_
          refine x_iload_n dL_law_437 rfl ?_
          refine x_iconst (v := 1) dL_law_438 (by decide) ?_
          refine x_iadd dL_law_439 ?_
          refine x_iald dL_law_440 (fun x68 => ?_)
          refine x_aload_n dL_law_441 rfl ?_
          refine x_iload_n dL_law_442 rfl ?_
          refine x_iconst (v := 2) dL_law_443 (by decide) ?_
          refine x_iadd dL_law_444 ?_
          refine x_iald dL_law_445 (fun x69 => ?_)
          refine x_aload_n dL_law_446 rfl ?_
          refine x_iload_n dL_law_447 rfl ?_
          refine x_iconst (v := 3) dL_law_448 (by decide) ?_
          refine x_iadd dL_law_449 ?_
          refine x_iald dL_law_450 (fun x70 => ?_)
          refine x_aload_n dL_law_451 rfl ?_
          refine x_iload_n dL_law_452 rfl ?_
          refine x_iconst (v := 4) dL_law_453 (by decide) ?_
          refine x_iadd dL_law_454 ?_
          refine x_iald dL_law_455 (fun x71 => ?_)
          refine cmL_46 rfl hs (Nat.le_of_ble_eq_true rfl) dL_law_456 (fun x73 M72 => ?_)
          refine x_aload_n dL_law_459 rfl ?_
          refine x_aload_n dL_law_460 rfl ?_
          refine x_iload_n dL_law_461 rfl ?_
          refine x_iconst (v := 1) dL_law_462 (by decide) ?_
          refine x_iadd dL_law_463 ?_
          refine x_iald dL_law_464 (fun x74 => ?_)
          refine x_aload_n dL_law_465 rfl ?_
          refine x_iload_n dL_law_466 rfl ?_
          refine x_iconst (v := 2) dL_law_467 (by decide) ?_
          refine x_iadd dL_law_468 ?_
          refine x_iald dL_law_469 (fun x75 => ?_)
          refine x_aload_n dL_law_470 rfl ?_
          refine x_iload_n dL_law_471 rfl ?_
          refine x_iconst (v := 3) dL_law_472 (by decide) ?_
          refine x_iadd dL_law_473 ?_
          refine x_iald dL_law_474 (fun x76 => ?_)
          refine x_aload_n dL_law_475 rfl ?_
          refine x_iload_n dL_law_476 rfl ?_
          refine x_iconst (v := 4) dL_law_477 (by decide) ?_
          refine x_iadd dL_law_478 ?_
          refine x_iald dL_law_479 (fun x77 => ?_)
          refine cmL_50 rfl hs (Nat.le_of_ble_eq_true rfl) dL_law_480 (fun x79 M78 => ?_)
          refine x_icmp_eq (tgt := 1569) dL_law_483 (by decide) (fun _ => ?_) (fun _ => ?_)
          · exact x_weak (by exact ⟨rfl, ⟨rfl, ⟨rfl, ⟨rfl, trivial⟩⟩⟩⟩) (hj1569 M78)
          · refine x_iconst (v := 0) dL_law_486 (by decide) ?_
            exact x_zret rfl dL_law_487
        · refine x_aload_n dL_law_488 rfl ?_
          refine x_aload_n dL_law_489 rfl ?_
          refine x_iload_n dL_law_490 rfl ?_
          refine x_iconst (v := 1) dL_law_491 (by decide) ?_
          refine x_iadd dL_law_492 ?_
          refine x_iald dL_law_493 (fun x80 => ?_)
          refine x_aload_n dL_law_494 rfl ?_
          refine x_iload_n dL_law_495 rfl ?_
          refine x_iconst (v := 2) dL_law_496 (by decide) ?_
          refine x_iadd dL_law_497 ?_
          refine x_iald dL_law_498 (fun x81 => ?_)
          refine x_aload_n dL_law_499 rfl ?_
          refine x_iload_n dL_law_500 rfl ?_
          refine x_iconst (v := 3) dL_law_501 (by decide) ?_
          refine x_iadd dL_law_502 ?_
          refine x_iald dL_law_503 (fun x82 => ?_)
          refine cmL_51 rfl hs (Nat.le_of_ble_eq_true rfl) dL_law_504 (fun x84 M83 => ?_)
          refine x_aload_n dL_law_507 rfl ?_
          refine x_aload_n dL_law_508 rfl ?_
          refine x_iload_n dL_law_509 rfl ?_
          refine x_iconst (v := 1) dL_law_510 (by decide) ?_
          refine x_iadd dL_law_511 ?_
          refine x_iald dL_law_512 (fun x85 => ?_)
          refine x_aload_n dL_law_513 rfl ?_
          refine x_iload_n dL_law_514 rfl ?_
          refine x_iconst (v := 2) dL_law_515 (by decide) ?_
          refine x_iadd dL_law_516 ?_
          refine x_iald dL_law_517 (fun x86 => ?_)
          refine x_aload_n dL_law_518 rfl ?_
          refine x_iload_n dL_law_519 rfl ?_
          refine x_iconst (v := 3) dL_law_520 (by decide) ?_
          refine x_iadd dL_law_521 ?_
          refine x_iald dL_law_522 (fun x87 => ?_)
          refine cmL_54 rfl hs (Nat.le_of_ble_eq_true rfl) dL_law_523 (fun x89 M88 => ?_)
          refine x_icmp_eq (tgt := 1569) dL_law_526 (by decide) (fun _ => ?_) (fun _ => ?_)
          · exact x_weak (by exact ⟨rfl, ⟨rfl, ⟨rfl, ⟨rfl, trivial⟩⟩⟩⟩) (hj1569 M88)
          · refine x_iconst (v := 0) dL_law_529 (by decide) ?_
            exact x_zret rfl dL_law_530
        · refine x_aload_n dL_law_531 rfl ?_
          refine x_aload_n dL_law_532 rfl ?_
          refine x_iload_n dL_law_533 rfl ?_
          refine x_iconst (v := 1) dL_law_534 (by decide) ?_
          refine x_iadd dL_law_535 ?_
          refine x_iald dL_law_536 (fun x90 => ?_)
          refine cmL_55 rfl hs (Nat.le_of_ble_eq_true rfl) dL_law_537 (fun x92 M91 => ?_)
          refine x_aload_n dL_law_540 rfl ?_
          refine x_aload_n dL_law_541 rfl ?_
          refine x_iload_n dL_law_542 rfl ?_
          refine x_iconst (v := 1) dL_law_543 (by decide) ?_
          refine x_iadd dL_law_544 ?_
          refine x_iald dL_law_545 (fun x93 => ?_)
          refine cmL_58 rfl hs (Nat.le_of_ble_eq_true rfl) dL_law_546 (fun x95 M94 => ?_)
          refine x_icmp_eq (tgt := 1569) dL_law_549 (by decide) (fun _ => ?_) (fun _ => ?_)
          · exact x_weak (by exact ⟨rfl, ⟨rfl, ⟨rfl, ⟨rfl, trivial⟩⟩⟩⟩) (hj1569 M94)
          · refine x_iconst (v := 0) dL_law_552 (by decide) ?_
            exact x_zret rfl dL_law_553
        · refine x_aload_n dL_law_554 rfl ?_
          refine x_aload_n dL_law_555 rfl ?_
          refine x_iload_n dL_law_556 rfl ?_
          refine x_iconst (v := 1) dL_law_557 (by decide) ?_
          refine x_iadd dL_law_558 ?_
          refine x_iald dL_law_559 (fun x96 => ?_)
          refine cmL_59 rfl hs (Nat.le_of_ble_eq_true rfl) dL_law_560 (fun x98 M97 => ?_)
          refine x_aload_n dL_law_563 rfl ?_
          refine x_aload_n dL_law_564 rfl ?_
          refine x_iload_n dL_law_565 rfl ?_
          refine x_iconst (v := 1) dL_law_566 (by decide) ?_
          refine x_iadd dL_law_567 ?_
          refine x_iald dL_law_568 (fun x99 => ?_)
          refine cmL_62 rfl hs (Nat.le_of_ble_eq_true rfl) dL_law_569 (fun x101 M100 => ?_)
          refine x_icmp_eq (tgt := 1569) dL_law_572 (by decide) (fun _ => ?_) (fun _ => ?_)
          · exact x_weak (by exact ⟨rfl, ⟨rfl, ⟨rfl, ⟨rfl, trivial⟩⟩⟩⟩) (hj1569 M100)
          · refine x_iconst (v := 0) dL_law_575 (by decide) ?_
            exact x_zret rfl dL_law_576
        · refine x_aload_n dL_law_577 rfl ?_
          refine x_aload_n dL_law_578 rfl ?_
          refine x_iload_n dL_law_579 rfl ?_
          refine x_iconst (v := 1) dL_law_580 (by decide) ?_
          refine x_iadd dL_law_581 ?_
          refine x_iald dL_law_582 (fun x102 => ?_)
          refine x_aload_n dL_law_583 rfl ?_
          refine x_iload_n dL_law_584 rfl ?_
          refine x_iconst (v := 2) dL_law_585 (by decide) ?_
          refine x_iadd dL_law_586 ?_
          refine x_iald dL_law_587 (fun x103 => ?_)
          refine x_aload_n dL_law_588 rfl ?_
          refine x_iload_n dL_law_589 rfl ?_
          refine x_iconst (v := 3) dL_law_590 (by decide) ?_
          refine x_iadd dL_law_591 ?_
          refine x_iald dL_law_592 (fun x104 => ?_)
          refine cmL_63 rfl hs (Nat.le_of_ble_eq_true rfl) dL_law_593 (fun x106 M105 => ?_)
          refine x_aload_n dL_law_596 rfl ?_
          refine x_aload_n dL_law_597 rfl ?_
          refine x_iload_n dL_law_598 rfl ?_
          refine x_iconst (v := 1) dL_law_599 (by decide) ?_
          refine x_iadd dL_law_600 ?_
          refine x_iald dL_law_601 (fun x107 => ?_)
          refine x_aload_n dL_law_602 rfl ?_
          refine x_iload_n dL_law_603 rfl ?_
          refine x_iconst (v := 2) dL_law_604 (by decide) ?_
          refine x_iadd dL_law_605 ?_
          refine x_iald dL_law_606 (fun x108 => ?_)
          refine x_aload_n dL_law_607 rfl ?_
          refine x_iload_n dL_law_608 rfl ?_
          refine x_iconst (v := 3) dL_law_609 (by decide) ?_
          refine x_iadd dL_law_610 ?_
          refine x_iald dL_law_611 (fun x109 => ?_)
          refine cmL_66 rfl hs (Nat.le_of_ble_eq_true rfl) dL_law_612 (fun x111 M110 => ?_)
          refine x_icmp_eq (tgt := 1569) dL_law_615 (by decide) (fun _ => ?_) (fun _ => ?_)
          · exact x_weak (by exact ⟨rfl, ⟨rfl, ⟨rfl, ⟨rfl, trivial⟩⟩⟩⟩) (hj1569 M110)
          · refine x_iconst (v := 0) dL_law_618 (by decide) ?_
            exact x_zret rfl dL_law_619
        · refine x_aload_n dL_law_620 rfl ?_
          refine x_aload_n dL_law_621 rfl ?_
          refine x_iload_n dL_law_622 rfl ?_
          refine x_iconst (v := 1) dL_law_623 (by decide) ?_
          refine x_iadd dL_law_624 ?_
          refine x_iald dL_law_625 (fun x112 => ?_)
          refine cmL_67 rfl hs (Nat.le_of_ble_eq_true rfl) dL_law_626 (fun x114 M113 => ?_)
          refine x_aload_n dL_law_629 rfl ?_
          refine x_aload_n dL_law_630 rfl ?_
          refine x_iload_n dL_law_631 rfl ?_
          refine x_iconst (v := 1) dL_law_632 (by decide) ?_
          refine x_iadd dL_law_633 ?_
          refine x_iald dL_law_634 (fun x115 => ?_)
          refine cmL_70 rfl hs (Nat.le_of_ble_eq_true rfl) dL_law_635 (fun x117 M116 => ?_)
          refine x_icmp_eq (tgt := 1569) dL_law_638 (by decide) (fun _ => ?_) (fun _ => ?_)
          · exact x_weak (by exact ⟨rfl, ⟨rfl, ⟨rfl, ⟨rfl, trivial⟩⟩⟩⟩) (hj1569 M116)
          · refine x_iconst (v := 0) dL_law_641 (by decide) ?_
            exact x_zret rfl dL_law_642
        · refine x_aload_n dL_law_643 rfl ?_
          refine x_aload_n dL_law_644 rfl ?_
          refine x_iload_n dL_law_645 rfl ?_
          refine x_iconst (v := 1) dL_law_646 (by decide) ?_
          refine x_iadd dL_law_647 ?_
          refine x_iald dL_law_648 (fun x118 => ?_)
          refine x_aload_n dL_law_649 rfl ?_
          refine x_iload_n dL_law_650 rfl ?_
          refine x_iconst (v := 2) dL_law_651 (by decide) ?_
          refine x_iadd dL_law_652 ?_
          refine x_iald dL_law_653 (fun x119 => ?_)
          refine x_aload_n dL_law_654 rfl ?_
          refine x_iload_n dL_law_655 rfl ?_
          refine x_iconst (v := 3) dL_law_656 (by decide) ?_
          refine x_iadd dL_law_657 ?_
          refine x_iald dL_law_658 (fun x120 => ?_)
          refine cmL_71 rfl hs (Nat.le_of_ble_eq_true rfl) dL_law_659 (fun x122 M121 => ?_)
          refine x_aload_n dL_law_662 rfl ?_
          refine x_aload_n dL_law_663 rfl ?_
          refine x_iload_n dL_law_664 rfl ?_
          refine x_iconst (v := 1) dL_law_665 (by decide) ?_
          refine x_iadd dL_law_666 ?_
          refine x_iald dL_law_667 (fun x123 => ?_)
          refine x_aload_n dL_law_668 rfl ?_
          refine x_iload_n dL_law_669 rfl ?_
          refine x_iconst (v := 2) dL_law_670 (by decide) ?_
          refine x_iadd dL_law_671 ?_
          refine x_iald dL_law_672 (fun x124 => ?_)
          refine x_aload_n dL_law_673 rfl ?_
          refine x_iload_n dL_law_674 rfl ?_
          refine x_iconst (v := 3) dL_law_675 (by decide) ?_
          refine x_iadd dL_law_676 ?_
          refine x_iald dL_law_677 (fun x125 => ?_)
          refine cmL_74 rfl hs (Nat.le_of_ble_eq_true rfl) dL_law_678 (fun x127 M126 => ?_)
          refine x_icmp_eq (tgt := 1569) dL_law_681 (by decide) (fun _ => ?_) (fun _ => ?_)
          · exact x_weak (by exact ⟨rfl, ⟨rfl, ⟨rfl, ⟨rfl, trivial⟩⟩⟩⟩) (hj1569 M126)
          · refine x_iconst (v := 0) dL_law_684 (by decide) ?_
            exact x_zret rfl dL_law_685
        · refine x_aload_n dL_law_686 rfl ?_
          refine x_aload_n dL_law_687 rfl ?_
          refine x_iload_n dL_law_688 rfl ?_
          refine x_iconst (v := 1) dL_law_689 (by decide) ?_
          refine x_iadd dL_law_690 ?_
          refine x_iald dL_law_691 (fun x128 => ?_)
          refine x_aload_n dL_law_692 rfl ?_
          refine x_iload_n dL_law_693 rfl ?_
          refine x_iconst (v := 2) dL_law_694 (by decide) ?_
          refine x_iadd dL_law_695 ?_
          refine x_iald dL_law_696 (fun x129 => ?_)
          refine x_aload_n dL_law_697 rfl ?_
          refine x_iload_n dL_law_698 rfl ?_
          refine x_iconst (v := 3) dL_law_699 (by decide) ?_
          refine x_iadd dL_law_700 ?_
          refine x_iald dL_law_701 (fun x130 => ?_)
          refine cmL_75 rfl hs (Nat.le_of_ble_eq_true rfl) dL_law_702 (fun x132 M131 => ?_)
          refine x_aload_n dL_law_705 rfl ?_
          refine x_aload_n dL_law_706 rfl ?_
          refine x_iload_n dL_law_707 rfl ?_
          refine x_iconst (v := 1) dL_law_708 (by decide) ?_
          refine x_iadd dL_law_709 ?_
          refine x_iald dL_law_710 (fun x133 => ?_)
          refine x_aload_n dL_law_711 rfl ?_
          refine x_iload_n dL_law_712 rfl ?_
          refine x_iconst (v := 2) dL_law_713 (by decide) ?_
          refine x_iadd dL_law_714 ?_
          refine x_iald dL_law_715 (fun x134 => ?_)
          refine x_aload_n dL_law_716 rfl ?_
          refine x_iload_n dL_law_717 rfl ?_
          refine x_iconst (v := 3) dL_law_718 (by decide) ?_
          refine x_iadd dL_law_719 ?_
          refine x_iald dL_law_720 (fun x135 => ?_)
          refine cmL_78 rfl hs (Nat.le_of_ble_eq_true rfl) dL_law_721 (fun x137 M136 => ?_)
          refine x_icmp_eq (tgt := 1569) dL_law_724 (by decide) (fun _ => ?_) (fun _ => ?_)
          · exact x_weak (by exact ⟨rfl, ⟨rfl, ⟨rfl, ⟨rfl, trivial⟩⟩⟩⟩) (hj1569 M136)
          · refine x_iconst (v := 0) dL_law_727 (by decide) ?_
            exact x_zret rfl dL_law_728
        · refine x_aload_n dL_law_729 rfl ?_
          refine x_aload_n dL_law_730 rfl ?_
          refine x_iload_n dL_law_731 rfl ?_
          refine x_iconst (v := 1) dL_law_732 (by decide) ?_
          refine x_iadd dL_law_733 ?_
          refine x_iald dL_law_734 (fun x138 => ?_)
          refine x_aload_n dL_law_735 rfl ?_
          refine x_iload_n dL_law_736 rfl ?_
          refine x_iconst (v := 2) dL_law_737 (by decide) ?_
          refine x_iadd dL_law_738 ?_
          refine x_iald dL_law_739 (fun x139 => ?_)
          refine cmL_79 rfl hs (Nat.le_of_ble_eq_true rfl) dL_law_740 (fun x141 M140 => ?_)
          refine x_aload_n dL_law_743 rfl ?_
          refine x_aload_n dL_law_744 rfl ?_
          refine x_iload_n dL_law_745 rfl ?_
          refine x_iconst (v := 1) dL_law_746 (by decide) ?_
          refine x_iadd dL_law_747 ?_
          refine x_iald dL_law_748 (fun x142 => ?_)
          refine x_aload_n dL_law_749 rfl ?_
          refine x_iload_n dL_law_750 rfl ?_
          refine x_iconst (v := 2) dL_law_751 (by decide) ?_
          refine x_iadd dL_law_752 ?_
          refine x_iald dL_law_753 (fun x143 => ?_)
          refine cmL_82 rfl hs (Nat.le_of_ble_eq_true rfl) dL_law_754 (fun x145 M144 => ?_)
          refine x_icmp_eq (tgt := 1569) dL_law_757 (by decide) (fun _ => ?_) (fun _ => ?_)
          · exact x_weak (by exact ⟨rfl, ⟨rfl, ⟨rfl, ⟨rfl, trivial⟩⟩⟩⟩) (hj1569 M144)
          · refine x_iconst (v := 0) dL_law_760 (by decide) ?_
            exact x_zret rfl dL_law_761
        · refine x_aload_n dL_law_762 rfl ?_
          refine x_aload_n dL_law_763 rfl ?_
          refine x_iload_n dL_law_764 rfl ?_
          refine x_iconst (v := 1) dL_law_765 (by decide) ?_
          refine x_iadd dL_law_766 ?_
          refine x_iald dL_law_767 (fun x146 => ?_)
          refine cmL_83 rfl hs (Nat.le_of_ble_eq_true rfl) dL_law_768 (fun x148 M147 => ?_)
          refine x_aload_n dL_law_771 rfl ?_
          refine x_aload_n dL_law_772 rfl ?_
          refine x_iload_n dL_law_773 rfl ?_
          refine x_iconst (v := 1) dL_law_774 (by decide) ?_
          refine x_iadd dL_law_775 ?_
          refine x_iald dL_law_776 (fun x149 => ?_)
          refine cmL_86 rfl hs (Nat.le_of_ble_eq_true rfl) dL_law_777 (fun x151 M150 => ?_)
          refine x_icmp_eq (tgt := 1569) dL_law_780 (by decide) (fun _ => ?_) (fun _ => ?_)
          · exact x_weak (by exact ⟨rfl, ⟨rfl, ⟨rfl, ⟨rfl, trivial⟩⟩⟩⟩) (hj1569 M150)
          · refine x_iconst (v := 0) dL_law_783 (by decide) ?_
            exact x_zret rfl dL_law_784
        · refine x_aload_n dL_law_785 rfl ?_
          refine x_aload_n dL_law_786 rfl ?_
          refine x_iload_n dL_law_787 rfl ?_
          refine x_iconst (v := 1) dL_law_788 (by decide) ?_
          refine x_iadd dL_law_789 ?_
          refine x_iald dL_law_790 (fun x152 => ?_)
          refine x_aload_n dL_law_791 rfl ?_
          refine x_iload_n dL_law_792 rfl ?_
          refine x_iconst (v := 2) dL_law_793 (by decide) ?_
          refine x_iadd dL_law_794 ?_
          refine x_iald dL_law_795 (fun x153 => ?_)
          refine cmL_87 rfl hs (Nat.le_of_ble_eq_true rfl) dL_law_796 (fun x155 M154 => ?_)
          refine x_aload_n dL_law_799 rfl ?_
          refine x_aload_n dL_law_800 rfl ?_
          refine x_iload_n dL_law_801 rfl ?_
          refine x_iconst (v := 1) dL_law_802 (by decide) ?_
          refine x_iadd dL_law_803 ?_
          refine x_iald dL_law_804 (fun x156 => ?_)
          refine x_aload_n dL_law_805 rfl ?_
          refine x_iload_n dL_law_806 rfl ?_
          refine x_iconst (v := 2) dL_law_807 (by decide) ?_
          refine x_iadd dL_law_808 ?_
          refine x_iald dL_law_809 (fun x157 => ?_)
          refine cmL_90 rfl hs (Nat.le_of_ble_eq_true rfl) dL_law_810 (fun x159 M158 => ?_)
          refine x_icmp_eq (tgt := 1569) dL_law_813 (by decide) (fun _ => ?_) (fun _ => ?_)
          · exact x_weak (by exact ⟨rfl, ⟨rfl, ⟨rfl, ⟨rfl, trivial⟩⟩⟩⟩) (hj1569 M158)
          · refine x_iconst (v := 0) dL_law_816 (by decide) ?_
            exact x_zret rfl dL_law_817
        · refine x_aload_n dL_law_818 rfl ?_
          refine x_aload_n dL_law_819 rfl ?_
          refine x_iload_n dL_law_820 rfl ?_
          refine x_iconst (v := 1) dL_law_821 (by decide) ?_
          refine x_iadd dL_law_822 ?_
          refine x_iald dL_law_823 (fun x160 => ?_)
          refine x_aload_n dL_law_824 rfl ?_
          refine x_iload_n dL_law_825 rfl ?_
          refine x_iconst (v := 2) dL_law_826 (by decide) ?_
          refine x_iadd dL_law_827 ?_
          refine x_iald dL_law_828 (fun x161 => ?_)
          refine x_aload_n dL_law_829 rfl ?_
          refine x_iload_n dL_law_830 rfl ?_
          refine x_iconst (v := 3) dL_law_831 (by decide) ?_
          refine x_iadd dL_law_832 ?_
          refine x_iald dL_law_833 (fun x162 => ?_)
          refine x_aload_n dL_law_834 rfl ?_
          refine x_iload_n dL_law_835 rfl ?_
          refine x_iconst (v := 4) dL_law_836 (by decide) ?_
          refine x_iadd dL_law_837 ?_
          refine x_iald dL_law_838 (fun x163 => ?_)
          refine x_jn (σ := Int32) 847 (fun s164 => [some (va_rf a0), some (va_rf x1), some (va_rf x4), some (.int s7.1)]) (fun s164 => [.int s164, .int x162, .int x161, .int x160, va_rf x1]) (fun s164 => s7.2) (fun s164 => ?_) (fun j847 hj847 => ?_)
          · refine x_aload_n dL_law_847 rfl ?_
            refine x_iload_n dL_law_848 rfl ?_
            refine x_iconst (v := 5) dL_law_849 (by decide) ?_
            refine x_iadd dL_law_850 ?_
            refine x_iald dL_law_851 (fun x165 => ?_)
            refine cmL_91 rfl hs (Nat.le_of_ble_eq_true rfl) dL_law_852 (fun x167 M166 => ?_)
            refine x_aload_n dL_law_855 rfl ?_
            refine x_aload_n dL_law_856 rfl ?_
            refine x_iload_n dL_law_857 rfl ?_
            refine x_iconst (v := 1) dL_law_858 (by decide) ?_
            refine x_iadd dL_law_859 ?_
            refine x_iald dL_law_860 (fun x168 => ?_)
            refine x_aload_n dL_law_861 rfl ?_
            refine x_iload_n dL_law_862 rfl ?_
            refine x_iconst (v := 2) dL_law_863 (by decide) ?_
            refine x_iadd dL_law_864 ?_
            refine x_iald dL_law_865 (fun x169 => ?_)
            refine x_aload_n dL_law_866 rfl ?_
            refine x_iload_n dL_law_867 rfl ?_
            refine x_iconst (v := 3) dL_law_868 (by decide) ?_
            refine x_iadd dL_law_869 ?_
            refine x_iald dL_law_870 (fun x170 => ?_)
            refine x_aload_n dL_law_871 rfl ?_
            refine x_iload_n dL_law_872 rfl ?_
            refine x_iconst (v := 4) dL_law_873 (by decide) ?_
            refine x_iadd dL_law_874 ?_
            refine x_iald dL_law_875 (fun x171 => ?_)
            refine x_jn (σ := Int32) 884 (fun s172 => [some (va_rf a0), some (va_rf x1), some (va_rf x4), some (.int s7.1)]) (fun s172 => [.int s172, .int x170, .int x169, .int x168, va_rf x4, .int x167]) (fun s172 => M166) (fun s172 => ?_) (fun j884 hj884 => ?_)
            · refine x_aload_n dL_law_884 rfl ?_
              refine x_iload_n dL_law_885 rfl ?_
              refine x_iconst (v := 5) dL_law_886 (by decide) ?_
              refine x_iadd dL_law_887 ?_
              refine x_iald dL_law_888 (fun x173 => ?_)
              refine cmL_95 rfl hs (Nat.le_of_ble_eq_true rfl) dL_law_889 (fun x175 M174 => ?_)
              refine x_icmp_eq (tgt := 1569) dL_law_892 (by decide) (fun _ => ?_) (fun _ => ?_)
              · exact x_weak (by exact ⟨rfl, ⟨rfl, ⟨rfl, ⟨rfl, trivial⟩⟩⟩⟩) (hj1569 M174)
              · refine x_iconst (v := 0) dL_law_895 (by decide) ?_
                exact x_zret rfl dL_law_896
            refine x_if_eq (tgt := 883) dL_law_876 (by decide) (fun _ => ?_) (fun _ => ?_)
            · refine x_iconst (v := 0) dL_law_883 (by decide) ?_
              exact x_weak (by exact ⟨rfl, ⟨rfl, ⟨rfl, ⟨rfl, trivial⟩⟩⟩⟩) (hj884 ((0 : Int32)))
            · refine x_iconst (v := 1) dL_law_879 (by decide) ?_
              refine x_goto (tgt := 884) dL_law_880 (by decide) ?_
              exact x_weak (by exact ⟨rfl, ⟨rfl, ⟨rfl, ⟨rfl, trivial⟩⟩⟩⟩) (hj884 ((1 : Int32)))
          refine x_if_eq (tgt := 846) dL_law_839 (by decide) (fun _ => ?_) (fun _ => ?_)
          · refine x_iconst (v := 0) dL_law_846 (by decide) ?_
            exact x_weak (by exact ⟨rfl, ⟨rfl, ⟨rfl, ⟨rfl, trivial⟩⟩⟩⟩) (hj847 ((0 : Int32)))
          · refine x_iconst (v := 1) dL_law_842 (by decide) ?_
            refine x_goto (tgt := 847) dL_law_843 (by decide) ?_
            exact x_weak (by exact ⟨rfl, ⟨rfl, ⟨rfl, ⟨rfl, trivial⟩⟩⟩⟩) (hj847 ((1 : Int32)))
        · refine x_aload_n dL_law_897 rfl ?_
          refine x_aload_n dL_law_898 rfl ?_
          refine x_iload_n dL_law_899 rfl ?_
          refine x_iconst (v := 1) dL_law_900 (by decide) ?_
          refine x_iadd dL_law_901 ?_
          refine x_iald dL_law_902 (fun x176 => ?_)
          refine cmL_96 rfl hs (Nat.le_of_ble_eq_true rfl) dL_law_903 (fun x178 M177 => ?_)
          refine x_aload_n dL_law_906 rfl ?_
          refine x_aload_n dL_law_907 rfl ?_
          refine x_iload_n dL_law_908 rfl ?_
          refine x_iconst (v := 1) dL_law_909 (by decide) ?_
          refine x_iadd dL_law_910 ?_
          refine x_iald dL_law_911 (fun x179 => ?_)
          refine cmL_99 rfl hs (Nat.le_of_ble_eq_true rfl) dL_law_912 (fun x181 M180 => ?_)
          refine x_icmp_eq (tgt := 1569) dL_law_915 (by decide) (fun _ => ?_) (fun _ => ?_)
          · exact x_weak (by exact ⟨rfl, ⟨rfl, ⟨rfl, ⟨rfl, trivial⟩⟩⟩⟩) (hj1569 M180)
          · refine x_iconst (v := 0) dL_law_918 (by decide) ?_
            exact x_zret rfl dL_law_919
        · refine x_aload_n dL_law_920 rfl ?_
          refine x_aload_n dL_law_921 rfl ?_
          refine x_iload_n dL_law_922 rfl ?_
          refine x_iconst (v := 1) dL_law_923 (by decide) ?_
          refine x_iadd dL_law_924 ?_
          refine x_iald dL_law_925 (fun x182 => ?_)
          refine x_aload_n dL_law_926 rfl ?_
          refine x_iload_n dL_law_927 rfl ?_
          refine x_iconst (v := 2) dL_law_928 (by decide) ?_
          refine x_iadd dL_law_929 ?_
          refine x_iald dL_law_930 (fun x183 => ?_)
          refine x_aload_n dL_law_931 rfl ?_
          refine x_iload_n dL_law_932 rfl ?_
          refine x_iconst (v := 3) dL_law_933 (by decide) ?_
          refine x_iadd dL_law_934 ?_
          refine x_iald dL_law_935 (fun x184 => ?_)
          refine cmL_100 rfl hs (Nat.le_of_ble_eq_true rfl) dL_law_936 (fun x186 M185 => ?_)
          refine x_aload_n dL_law_939 rfl ?_
          refine x_aload_n dL_law_940 rfl ?_
          refine x_iload_n dL_law_941 rfl ?_
          refine x_iconst (v := 1) dL_law_942 (by decide) ?_
          refine x_iadd dL_law_943 ?_
          refine x_iald dL_law_944 (fun x187 => ?_)
          refine x_aload_n dL_law_945 rfl ?_
          refine x_iload_n dL_law_946 rfl ?_
          refine x_iconst (v := 2) dL_law_947 (by decide) ?_
          refine x_iadd dL_law_948 ?_
          refine x_iald dL_law_949 (fun x188 => ?_)
          refine x_aload_n dL_law_950 rfl ?_
          refine x_iload_n dL_law_951 rfl ?_
          refine x_iconst (v := 3) dL_law_952 (by decide) ?_
          refine x_iadd dL_law_953 ?_
          refine x_iald dL_law_954 (fun x189 => ?_)
          refine cmL_103 rfl hs (Nat.le_of_ble_eq_true rfl) dL_law_955 (fun x191 M190 => ?_)
          refine x_icmp_eq (tgt := 1569) dL_law_958 (by decide) (fun _ => ?_) (fun _ => ?_)
          · exact x_weak (by exact ⟨rfl, ⟨rfl, ⟨rfl, ⟨rfl, trivial⟩⟩⟩⟩) (hj1569 M190)
          · refine x_iconst (v := 0) dL_law_961 (by decide) ?_
            exact x_zret rfl dL_law_962
        · refine x_aload_n dL_law_963 rfl ?_
          refine x_aload_n dL_law_964 rfl ?_
          refine x_iload_n dL_law_965 rfl ?_
          refine x_iconst (v := 1) dL_law_966 (by decide) ?_
          refine x_iadd dL_law_967 ?_
          refine x_iald dL_law_968 (fun x192 => ?_)
          refine x_aload_n dL_law_969 rfl ?_
          refine x_iload_n dL_law_970 rfl ?_
          refine x_iconst (v := 2) dL_law_971 (by decide) ?_
          refine x_iadd dL_law_972 ?_
          refine x_iald dL_law_973 (fun x193 => ?_)
          refine x_aload_n dL_law_974 rfl ?_
          refine x_iload_n dL_law_975 rfl ?_
          refine x_iconst (v := 3) dL_law_976 (by decide) ?_
          refine x_iadd dL_law_977 ?_
          refine x_iald dL_law_978 (fun x194 => ?_)
          refine cmL_104 rfl hs (Nat.le_of_ble_eq_true rfl) dL_law_979 (fun x196 M195 => ?_)
          refine x_aload_n dL_law_982 rfl ?_
          refine x_aload_n dL_law_983 rfl ?_
          refine x_iload_n dL_law_984 rfl ?_
          refine x_iconst (v := 1) dL_law_985 (by decide) ?_
          refine x_iadd dL_law_986 ?_
          refine x_iald dL_law_987 (fun x197 => ?_)
          refine x_aload_n dL_law_988 rfl ?_
          refine x_iload_n dL_law_989 rfl ?_
          refine x_iconst (v := 2) dL_law_990 (by decide) ?_
          refine x_iadd dL_law_991 ?_
          refine x_iald dL_law_992 (fun x198 => ?_)
          refine x_aload_n dL_law_993 rfl ?_
          refine x_iload_n dL_law_994 rfl ?_
          refine x_iconst (v := 3) dL_law_995 (by decide) ?_
          refine x_iadd dL_law_996 ?_
          refine x_iald dL_law_997 (fun x199 => ?_)
          refine cmL_107 rfl hs (Nat.le_of_ble_eq_true rfl) dL_law_998 (fun x201 M200 => ?_)
          refine x_icmp_eq (tgt := 1569) dL_law_1001 (by decide) (fun _ => ?_) (fun _ => ?_)
          · exact x_weak (by exact ⟨rfl, ⟨rfl, ⟨rfl, ⟨rfl, trivial⟩⟩⟩⟩) (hj1569 M200)
          · refine x_iconst (v := 0) dL_law_1004 (by decide) ?_
            exact x_zret rfl dL_law_1005
        · refine x_aload_n dL_law_1006 rfl ?_
          refine x_aload_n dL_law_1007 rfl ?_
          refine x_iload_n dL_law_1008 rfl ?_
          refine x_iconst (v := 1) dL_law_1009 (by decide) ?_
          refine x_iadd dL_law_1010 ?_
          refine x_iald dL_law_1011 (fun x202 => ?_)
          refine cmL_108 rfl hs (Nat.le_of_ble_eq_true rfl) dL_law_1012 (fun x204 M203 => ?_)
          refine x_aload_n dL_law_1015 rfl ?_
          refine x_aload_n dL_law_1016 rfl ?_
          refine x_iload_n dL_law_1017 rfl ?_
          refine x_iconst (v := 1) dL_law_1018 (by decide) ?_
          refine x_iadd dL_law_1019 ?_
          refine x_iald dL_law_1020 (fun x205 => ?_)
          refine cmL_111 rfl hs (Nat.le_of_ble_eq_true rfl) dL_law_1021 (fun x207 M206 => ?_)
          refine x_icmp_eq (tgt := 1569) dL_law_1024 (by decide) (fun _ => ?_) (fun _ => ?_)
          · exact x_weak (by exact ⟨rfl, ⟨rfl, ⟨rfl, ⟨rfl, trivial⟩⟩⟩⟩) (hj1569 M206)
          · refine x_iconst (v := 0) dL_law_1027 (by decide) ?_
            exact x_zret rfl dL_law_1028
        · refine x_aload_n dL_law_1029 rfl ?_
          refine x_aload_n dL_law_1030 rfl ?_
          refine x_iload_n dL_law_1031 rfl ?_
          refine x_iconst (v := 1) dL_law_1032 (by decide) ?_
          refine x_iadd dL_law_1033 ?_
          refine x_iald dL_law_1034 (fun x208 => ?_)
          refine x_aload_n dL_law_1035 rfl ?_
          refine x_iload_n dL_law_1036 rfl ?_
          refine x_iconst (v := 2) dL_law_1037 (by decide) ?_
          refine x_iadd dL_law_1038 ?_
          refine x_iald dL_law_1039 (fun x209 => ?_)
          refine x_aload_n dL_law_1040 rfl ?_
          refine x_iload_n dL_law_1041 rfl ?_
          refine x_iconst (v := 3) dL_law_1042 (by decide) ?_
          refine x_iadd dL_law_1043 ?_
          refine x_iald dL_law_1044 (fun x210 => ?_)
          refine cmL_112 rfl hs (Nat.le_of_ble_eq_true rfl) dL_law_1045 (fun x212 M211 => ?_)
          refine x_aload_n dL_law_1048 rfl ?_
          refine x_aload_n dL_law_1049 rfl ?_
          refine x_iload_n dL_law_1050 rfl ?_
          refine x_iconst (v := 1) dL_law_1051 (by decide) ?_
          refine x_iadd dL_law_1052 ?_
          refine x_iald dL_law_1053 (fun x213 => ?_)
          refine x_aload_n dL_law_1054 rfl ?_
          refine x_iload_n dL_law_1055 rfl ?_
          refine x_iconst (v := 2) dL_law_1056 (by decide) ?_
          refine x_iadd dL_law_1057 ?_
          refine x_iald dL_law_1058 (fun x214 => ?_)
          refine x_aload_n dL_law_1059 rfl ?_
          refine x_iload_n dL_law_1060 rfl ?_
          refine x_iconst (v := 3) dL_law_1061 (by decide) ?_
          refine x_iadd dL_law_1062 ?_
          refine x_iald dL_law_1063 (fun x215 => ?_)
          refine cmL_115 rfl hs (Nat.le_of_ble_eq_true rfl) dL_law_1064 (fun x217 M216 => ?_)
          refine x_icmp_eq (tgt := 1569) dL_law_1067 (by decide) (fun _ => ?_) (fun _ => ?_)
          · exact x_weak (by exact ⟨rfl, ⟨rfl, ⟨rfl, ⟨rfl, trivial⟩⟩⟩⟩) (hj1569 M216)
          · refine x_iconst (v := 0) dL_law_1070 (by decide) ?_
            exact x_zret rfl dL_law_1071
        · refine x_aload_n dL_law_1072 rfl ?_
          refine x_aload_n dL_law_1073 rfl ?_
          refine x_iload_n dL_law_1074 rfl ?_
          refine x_iconst (v := 1) dL_law_1075 (by decide) ?_
          refine x_iadd dL_law_1076 ?_
          refine x_iald dL_law_1077 (fun x218 => ?_)
          refine x_aload_n dL_law_1078 rfl ?_
          refine x_iload_n dL_law_1079 rfl ?_
          refine x_iconst (v := 2) dL_law_1080 (by decide) ?_
          refine x_iadd dL_law_1081 ?_
          refine x_iald dL_law_1082 (fun x219 => ?_)
          refine cmL_116 rfl hs (Nat.le_of_ble_eq_true rfl) dL_law_1083 (fun x221 M220 => ?_)
          refine x_aload_n dL_law_1086 rfl ?_
          refine x_aload_n dL_law_1087 rfl ?_
          refine x_iload_n dL_law_1088 rfl ?_
          refine x_iconst (v := 1) dL_law_1089 (by decide) ?_
          refine x_iadd dL_law_1090 ?_
          refine x_iald dL_law_1091 (fun x222 => ?_)
          refine x_aload_n dL_law_1092 rfl ?_
          refine x_iload_n dL_law_1093 rfl ?_
          refine x_iconst (v := 2) dL_law_1094 (by decide) ?_
          refine x_iadd dL_law_1095 ?_
          refine x_iald dL_law_1096 (fun x223 => ?_)
          refine cmL_119 rfl hs (Nat.le_of_ble_eq_true rfl) dL_law_1097 (fun x225 M224 => ?_)
          refine x_icmp_eq (tgt := 1569) dL_law_1100 (by decide) (fun _ => ?_) (fun _ => ?_)
          · exact x_weak (by exact ⟨rfl, ⟨rfl, ⟨rfl, ⟨rfl, trivial⟩⟩⟩⟩) (hj1569 M224)
          · refine x_iconst (v := 0) dL_law_1103 (by decide) ?_
            exact x_zret rfl dL_law_1104
        · refine x_aload_n dL_law_1105 rfl ?_
          refine x_aload_n dL_law_1106 rfl ?_
          refine x_iload_n dL_law_1107 rfl ?_
          refine x_iconst (v := 1) dL_law_1108 (by decide) ?_
          refine x_iadd dL_law_1109 ?_
          refine x_iald dL_law_1110 (fun x226 => ?_)
          refine x_aload_n dL_law_1111 rfl ?_
          refine x_iload_n dL_law_1112 rfl ?_
          refine x_iconst (v := 2) dL_law_1113 (by decide) ?_
          refine x_iadd dL_law_1114 ?_
          refine x_iald dL_law_1115 (fun x227 => ?_)
          refine x_aload_n dL_law_1116 rfl ?_
          refine x_iload_n dL_law_1117 rfl ?_
          refine x_iconst (v := 3) dL_law_1118 (by decide) ?_
          refine x_iadd dL_law_1119 ?_
          refine x_iald dL_law_1120 (fun x228 => ?_)
          refine cmL_120 rfl hs (Nat.le_of_ble_eq_true rfl) dL_law_1121 (fun x230 M229 => ?_)
          refine x_aload_n dL_law_1124 rfl ?_
          refine x_aload_n dL_law_1125 rfl ?_
          refine x_iload_n dL_law_1126 rfl ?_
          refine x_iconst (v := 1) dL_law_1127 (by decide) ?_
          refine x_iadd dL_law_1128 ?_
          refine x_iald dL_law_1129 (fun x231 => ?_)
          refine x_aload_n dL_law_1130 rfl ?_
          refine x_iload_n dL_law_1131 rfl ?_
          refine x_iconst (v := 2) dL_law_1132 (by decide) ?_
          refine x_iadd dL_law_1133 ?_
          refine x_iald dL_law_1134 (fun x232 => ?_)
          refine x_aload_n dL_law_1135 rfl ?_
          refine x_iload_n dL_law_1136 rfl ?_
          refine x_iconst (v := 3) dL_law_1137 (by decide) ?_
          refine x_iadd dL_law_1138 ?_
          refine x_iald dL_law_1139 (fun x233 => ?_)
          refine cmL_123 rfl hs (Nat.le_of_ble_eq_true rfl) dL_law_1140 (fun x235 M234 => ?_)
          refine x_icmp_eq (tgt := 1569) dL_law_1143 (by decide) (fun _ => ?_) (fun _ => ?_)
          · exact x_weak (by exact ⟨rfl, ⟨rfl, ⟨rfl, ⟨rfl, trivial⟩⟩⟩⟩) (hj1569 M234)
          · refine x_iconst (v := 0) dL_law_1146 (by decide) ?_
            exact x_zret rfl dL_law_1147
        · refine x_aload_n dL_law_1148 rfl ?_
          refine x_aload_n dL_law_1149 rfl ?_
          refine x_iload_n dL_law_1150 rfl ?_
          refine x_iconst (v := 1) dL_law_1151 (by decide) ?_
          refine x_iadd dL_law_1152 ?_
          refine x_iald dL_law_1153 (fun x236 => ?_)
          refine cmL_124 rfl hs (Nat.le_of_ble_eq_true rfl) dL_law_1154 (fun x238 M237 => ?_)
          refine x_aload_n dL_law_1157 rfl ?_
          refine x_aload_n dL_law_1158 rfl ?_
          refine x_iload_n dL_law_1159 rfl ?_
          refine x_iconst (v := 1) dL_law_1160 (by decide) ?_
          refine x_iadd dL_law_1161 ?_
          refine x_iald dL_law_1162 (fun x239 => ?_)
          refine cmL_127 rfl hs (Nat.le_of_ble_eq_true rfl) dL_law_1163 (fun x241 M240 => ?_)
          refine x_icmp_eq (tgt := 1569) dL_law_1166 (by decide) (fun _ => ?_) (fun _ => ?_)
          · exact x_weak (by exact ⟨rfl, ⟨rfl, ⟨rfl, ⟨rfl, trivial⟩⟩⟩⟩) (hj1569 M240)
          · refine x_iconst (v := 0) dL_law_1169 (by decide) ?_
            exact x_zret rfl dL_law_1170
        · refine x_aload_n dL_law_1171 rfl ?_
          refine x_aload_n dL_law_1172 rfl ?_
          refine x_iload_n dL_law_1173 rfl ?_
          refine x_iconst (v := 1) dL_law_1174 (by decide) ?_
          refine x_iadd dL_law_1175 ?_
          refine x_iald dL_law_1176 (fun x242 => ?_)
          refine x_aload_n dL_law_1177 rfl ?_
          refine x_iload_n dL_law_1178 rfl ?_
          refine x_iconst (v := 2) dL_law_1179 (by decide) ?_
          refine x_iadd dL_law_1180 ?_
          refine x_iald dL_law_1181 (fun x243 => ?_)
          refine cmL_128 rfl hs (Nat.le_of_ble_eq_true rfl) dL_law_1182 (fun x245 M244 => ?_)
          refine x_aload_n dL_law_1185 rfl ?_
          refine x_aload_n dL_law_1186 rfl ?_
          refine x_iload_n dL_law_1187 rfl ?_
          refine x_iconst (v := 1) dL_law_1188 (by decide) ?_
          refine x_iadd dL_law_1189 ?_
          refine x_iald dL_law_1190 (fun x246 => ?_)
          refine x_aload_n dL_law_1191 rfl ?_
          refine x_iload_n dL_law_1192 rfl ?_
          refine x_iconst (v := 2) dL_law_1193 (by decide) ?_
          refine x_iadd dL_law_1194 ?_
          refine x_iald dL_law_1195 (fun x247 => ?_)
          refine cmL_131 rfl hs (Nat.le_of_ble_eq_true rfl) dL_law_1196 (fun x249 M248 => ?_)
          refine x_icmp_eq (tgt := 1569) dL_law_1199 (by decide) (fun _ => ?_) (fun _ => ?_)
          · exact x_weak (by exact ⟨rfl, ⟨rfl, ⟨rfl, ⟨rfl, trivial⟩⟩⟩⟩) (hj1569 M248)
          · refine x_iconst (v := 0) dL_law_1202 (by decide) ?_
            exact x_zret rfl dL_law_1203
        · refine x_aload_n dL_law_1204 rfl ?_
          refine x_aload_n dL_law_1205 rfl ?_
          refine x_iload_n dL_law_1206 rfl ?_
          refine x_iconst (v := 1) dL_law_1207 (by decide) ?_
          refine x_iadd dL_law_1208 ?_
          refine x_iald dL_law_1209 (fun x250 => ?_)
          refine cmL_132 rfl hs (Nat.le_of_ble_eq_true rfl) dL_law_1210 (fun x252 M251 => ?_)
          refine x_aload_n dL_law_1213 rfl ?_
          refine x_aload_n dL_law_1214 rfl ?_
          refine x_iload_n dL_law_1215 rfl ?_
          refine x_iconst (v := 1) dL_law_1216 (by decide) ?_
          refine x_iadd dL_law_1217 ?_
          refine x_iald dL_law_1218 (fun x253 => ?_)
          refine cmL_135 rfl hs (Nat.le_of_ble_eq_true rfl) dL_law_1219 (fun x255 M254 => ?_)
          refine x_icmp_eq (tgt := 1569) dL_law_1222 (by decide) (fun _ => ?_) (fun _ => ?_)
          · exact x_weak (by exact ⟨rfl, ⟨rfl, ⟨rfl, ⟨rfl, trivial⟩⟩⟩⟩) (hj1569 M254)
          · refine x_iconst (v := 0) dL_law_1225 (by decide) ?_
            exact x_zret rfl dL_law_1226
        · refine x_aload_n dL_law_1227 rfl ?_
          refine x_aload_n dL_law_1228 rfl ?_
          refine x_iload_n dL_law_1229 rfl ?_
          refine x_iconst (v := 1) dL_law_1230 (by decide) ?_
          refine x_iadd dL_law_1231 ?_
          refine x_iald dL_law_1232 (fun x256 => ?_)
          refine x_aload_n dL_law_1233 rfl ?_
          refine x_iload_n dL_law_1234 rfl ?_
          refine x_iconst (v := 2) dL_law_1235 (by decide) ?_
          refine x_iadd dL_law_1236 ?_
          refine x_iald dL_law_1237 (fun x257 => ?_)
          refine x_aload_n dL_law_1238 rfl ?_
          refine x_iload_n dL_law_1239 rfl ?_
          refine x_iconst (v := 3) dL_law_1240 (by decide) ?_
          refine x_iadd dL_law_1241 ?_
          refine x_iald dL_law_1242 (fun x258 => ?_)
          refine x_aload_n dL_law_1243 rfl ?_
          refine x_iload_n dL_law_1244 rfl ?_
          refine x_iconst (v := 4) dL_law_1245 (by decide) ?_
          refine x_iadd dL_law_1246 ?_
          refine x_iald dL_law_1247 (fun x259 => ?_)
          refine x_aload_n dL_law_1248 rfl ?_
          refine x_iload_n dL_law_1249 rfl ?_
          refine x_iconst (v := 5) dL_law_1250 (by decide) ?_
          refine x_iadd dL_law_1251 ?_
          refine x_iald dL_law_1252 (fun x260 => ?_)
          refine x_aload_n dL_law_1253 rfl ?_
          refine x_iload_n dL_law_1254 rfl ?_
          refine x_bipush (v := 6) dL_law_1255 (by decide) ?_
          refine x_iadd dL_law_1257 ?_
          refine x_iald dL_law_1258 (fun x261 => ?_)
          refine cmL_136 rfl hs (Nat.le_of_ble_eq_true rfl) dL_law_1259 (fun x263 M262 => ?_)
          refine x_aload_n dL_law_1262 rfl ?_
          refine x_aload_n dL_law_1263 rfl ?_
          refine x_iload_n dL_law_1264 rfl ?_
          refine x_iconst (v := 1) dL_law_1265 (by decide) ?_
          refine x_iadd dL_law_1266 ?_
          refine x_iald dL_law_1267 (fun x264 => ?_)
          refine x_aload_n dL_law_1268 rfl ?_
          refine x_iload_n dL_law_1269 rfl ?_
          refine x_iconst (v := 2) dL_law_1270 (by decide) ?_
          refine x_iadd dL_law_1271 ?_
          refine x_iald dL_law_1272 (fun x265 => ?_)
          refine x_aload_n dL_law_1273 rfl ?_
          refine x_iload_n dL_law_1274 rfl ?_
          refine x_iconst (v := 3) dL_law_1275 (by decide) ?_
          refine x_iadd dL_law_1276 ?_
          refine x_iald dL_law_1277 (fun x266 => ?_)
          refine x_aload_n dL_law_1278 rfl ?_
          refine x_iload_n dL_law_1279 rfl ?_
          refine x_iconst (v := 4) dL_law_1280 (by decide) ?_
          refine x_iadd dL_law_1281 ?_
          refine x_iald dL_law_1282 (fun x267 => ?_)
          refine x_aload_n dL_law_1283 rfl ?_
          refine x_iload_n dL_law_1284 rfl ?_
          refine x_iconst (v := 5) dL_law_1285 (by decide) ?_
          refine x_iadd dL_law_1286 ?_
          refine x_iald dL_law_1287 (fun x268 => ?_)
          refine x_aload_n dL_law_1288 rfl ?_
          refine x_iload_n dL_law_1289 rfl ?_
          refine x_bipush (v := 6) dL_law_1290 (by decide) ?_
          refine x_iadd dL_law_1292 ?_
          refine x_iald dL_law_1293 (fun x269 => ?_)
          refine cmL_140 rfl hs (Nat.le_of_ble_eq_true rfl) dL_law_1294 (fun x271 M270 => ?_)
          refine x_icmp_eq (tgt := 1569) dL_law_1297 (by decide) (fun _ => ?_) (fun _ => ?_)
          · exact x_weak (by exact ⟨rfl, ⟨rfl, ⟨rfl, ⟨rfl, trivial⟩⟩⟩⟩) (hj1569 M270)
          · refine x_iconst (v := 0) dL_law_1300 (by decide) ?_
            exact x_zret rfl dL_law_1301
        · refine x_aload_n dL_law_1302 rfl ?_
          refine x_aload_n dL_law_1303 rfl ?_
          refine x_iload_n dL_law_1304 rfl ?_
          refine x_iconst (v := 1) dL_law_1305 (by decide) ?_
          refine x_iadd dL_law_1306 ?_
          refine x_iald dL_law_1307 (fun x272 => ?_)
          refine cmL_141 rfl hs (Nat.le_of_ble_eq_true rfl) dL_law_1308 (fun x274 M273 => ?_)
          refine x_aload_n dL_law_1311 rfl ?_
          refine x_aload_n dL_law_1312 rfl ?_
          refine x_iload_n dL_law_1313 rfl ?_
          refine x_iconst (v := 1) dL_law_1314 (by decide) ?_
          refine x_iadd dL_law_1315 ?_
          refine x_iald dL_law_1316 (fun x275 => ?_)
          refine cmL_144 rfl hs (Nat.le_of_ble_eq_true rfl) dL_law_1317 (fun x277 M276 => ?_)
          refine x_icmp_eq (tgt := 1569) dL_law_1320 (by decide) (fun _ => ?_) (fun _ => ?_)
          · exact x_weak (by exact ⟨rfl, ⟨rfl, ⟨rfl, ⟨rfl, trivial⟩⟩⟩⟩) (hj1569 M276)
          · refine x_iconst (v := 0) dL_law_1323 (by decide) ?_
            exact x_zret rfl dL_law_1324
        · refine x_aload_n dL_law_1325 rfl ?_
          refine x_aload_n dL_law_1326 rfl ?_
          refine x_iload_n dL_law_1327 rfl ?_
          refine x_iconst (v := 1) dL_law_1328 (by decide) ?_
          refine x_iadd dL_law_1329 ?_
          refine x_iald dL_law_1330 (fun x278 => ?_)
          refine x_aload_n dL_law_1331 rfl ?_
          refine x_iload_n dL_law_1332 rfl ?_
          refine x_iconst (v := 2) dL_law_1333 (by decide) ?_
          refine x_iadd dL_law_1334 ?_
          refine x_iald dL_law_1335 (fun x279 => ?_)
          refine cmL_145 rfl hs (Nat.le_of_ble_eq_true rfl) dL_law_1336 (fun x281 M280 => ?_)
          refine x_aload_n dL_law_1339 rfl ?_
          refine x_aload_n dL_law_1340 rfl ?_
          refine x_iload_n dL_law_1341 rfl ?_
          refine x_iconst (v := 1) dL_law_1342 (by decide) ?_
          refine x_iadd dL_law_1343 ?_
          refine x_iald dL_law_1344 (fun x282 => ?_)
          refine x_aload_n dL_law_1345 rfl ?_
          refine x_iload_n dL_law_1346 rfl ?_
          refine x_iconst (v := 2) dL_law_1347 (by decide) ?_
          refine x_iadd dL_law_1348 ?_
          refine x_iald dL_law_1349 (fun x283 => ?_)
          refine cmL_148 rfl hs (Nat.le_of_ble_eq_true rfl) dL_law_1350 (fun x285 M284 => ?_)
          refine x_icmp_eq (tgt := 1569) dL_law_1353 (by decide) (fun _ => ?_) (fun _ => ?_)
          · exact x_weak (by exact ⟨rfl, ⟨rfl, ⟨rfl, ⟨rfl, trivial⟩⟩⟩⟩) (hj1569 M284)
          · refine x_iconst (v := 0) dL_law_1356 (by decide) ?_
            exact x_zret rfl dL_law_1357
        · refine x_aload_n dL_law_1358 rfl ?_
          refine x_aload_n dL_law_1359 rfl ?_
          refine x_iload_n dL_law_1360 rfl ?_
          refine x_iconst (v := 1) dL_law_1361 (by decide) ?_
          refine x_iadd dL_law_1362 ?_
          refine x_iald dL_law_1363 (fun x286 => ?_)
          refine x_aload_n dL_law_1364 rfl ?_
          refine x_iload_n dL_law_1365 rfl ?_
          refine x_iconst (v := 2) dL_law_1366 (by decide) ?_
          refine x_iadd dL_law_1367 ?_
          refine x_iald dL_law_1368 (fun x287 => ?_)
          refine cmL_149 rfl hs (Nat.le_of_ble_eq_true rfl) dL_law_1369 (fun x289 M288 => ?_)
          refine x_aload_n dL_law_1372 rfl ?_
          refine x_aload_n dL_law_1373 rfl ?_
          refine x_iload_n dL_law_1374 rfl ?_
          refine x_iconst (v := 1) dL_law_1375 (by decide) ?_
          refine x_iadd dL_law_1376 ?_
          refine x_iald dL_law_1377 (fun x290 => ?_)
          refine x_aload_n dL_law_1378 rfl ?_
          refine x_iload_n dL_law_1379 rfl ?_
          refine x_iconst (v := 2) dL_law_1380 (by decide) ?_
          refine x_iadd dL_law_1381 ?_
          refine x_iald dL_law_1382 (fun x291 => ?_)
          refine cmL_152 rfl hs (Nat.le_of_ble_eq_true rfl) dL_law_1383 (fun x293 M292 => ?_)
          refine x_icmp_eq (tgt := 1569) dL_law_1386 (by decide) (fun _ => ?_) (fun _ => ?_)
          · exact x_weak (by exact ⟨rfl, ⟨rfl, ⟨rfl, ⟨rfl, trivial⟩⟩⟩⟩) (hj1569 M292)
          · refine x_iconst (v := 0) dL_law_1389 (by decide) ?_
            exact x_zret rfl dL_law_1390
        · refine x_aload_n dL_law_1391 rfl ?_
          refine x_aload_n dL_law_1392 rfl ?_
          refine x_iload_n dL_law_1393 rfl ?_
          refine x_iconst (v := 1) dL_law_1394 (by decide) ?_
          refine x_iadd dL_law_1395 ?_
          refine x_iald dL_law_1396 (fun x294 => ?_)
          refine cmL_153 rfl hs (Nat.le_of_ble_eq_true rfl) dL_law_1397 (fun x296 M295 => ?_)
          refine x_aload_n dL_law_1400 rfl ?_
          refine x_aload_n dL_law_1401 rfl ?_
          refine x_iload_n dL_law_1402 rfl ?_
          refine x_iconst (v := 1) dL_law_1403 (by decide) ?_
          refine x_iadd dL_law_1404 ?_
          refine x_iald dL_law_1405 (fun x297 => ?_)
          refine cmL_156 rfl hs (Nat.le_of_ble_eq_true rfl) dL_law_1406 (fun x299 M298 => ?_)
          refine x_icmp_eq (tgt := 1569) dL_law_1409 (by decide) (fun _ => ?_) (fun _ => ?_)
          · exact x_weak (by exact ⟨rfl, ⟨rfl, ⟨rfl, ⟨rfl, trivial⟩⟩⟩⟩) (hj1569 M298)
          · refine x_iconst (v := 0) dL_law_1412 (by decide) ?_
            exact x_zret rfl dL_law_1413
        · refine x_aload_n dL_law_1414 rfl ?_
          refine x_aload_n dL_law_1415 rfl ?_
          refine x_iload_n dL_law_1416 rfl ?_
          refine x_iconst (v := 1) dL_law_1417 (by decide) ?_
          refine x_iadd dL_law_1418 ?_
          refine x_iald dL_law_1419 (fun x300 => ?_)
          refine x_aload_n dL_law_1420 rfl ?_
          refine x_iload_n dL_law_1421 rfl ?_
          refine x_iconst (v := 2) dL_law_1422 (by decide) ?_
          refine x_iadd dL_law_1423 ?_
          refine x_iald dL_law_1424 (fun x301 => ?_)
          refine cmL_157 rfl hs (Nat.le_of_ble_eq_true rfl) dL_law_1425 (fun x303 M302 => ?_)
          refine x_aload_n dL_law_1428 rfl ?_
          refine x_aload_n dL_law_1429 rfl ?_
          refine x_iload_n dL_law_1430 rfl ?_
          refine x_iconst (v := 1) dL_law_1431 (by decide) ?_
          refine x_iadd dL_law_1432 ?_
          refine x_iald dL_law_1433 (fun x304 => ?_)
          refine x_aload_n dL_law_1434 rfl ?_
          refine x_iload_n dL_law_1435 rfl ?_
          refine x_iconst (v := 2) dL_law_1436 (by decide) ?_
          refine x_iadd dL_law_1437 ?_
          refine x_iald dL_law_1438 (fun x305 => ?_)
          refine cmL_160 rfl hs (Nat.le_of_ble_eq_true rfl) dL_law_1439 (fun x307 M306 => ?_)
          refine x_icmp_eq (tgt := 1569) dL_law_1442 (by decide) (fun _ => ?_) (fun _ => ?_)
          · exact x_weak (by exact ⟨rfl, ⟨rfl, ⟨rfl, ⟨rfl, trivial⟩⟩⟩⟩) (hj1569 M306)
          · refine x_iconst (v := 0) dL_law_1445 (by decide) ?_
            exact x_zret rfl dL_law_1446
        · refine x_aload_n dL_law_1447 rfl ?_
          refine x_aload_n dL_law_1448 rfl ?_
          refine x_iload_n dL_law_1449 rfl ?_
          refine x_iconst (v := 1) dL_law_1450 (by decide) ?_
          refine x_iadd dL_law_1451 ?_
          refine x_iald dL_law_1452 (fun x308 => ?_)
          refine cmL_161 rfl hs (Nat.le_of_ble_eq_true rfl) dL_law_1453 (fun x310 M309 => ?_)
          refine x_aload_n dL_law_1456 rfl ?_
          refine x_aload_n dL_law_1457 rfl ?_
          refine x_iload_n dL_law_1458 rfl ?_
          refine x_iconst (v := 1) dL_law_1459 (by decide) ?_
          refine x_iadd dL_law_1460 ?_
          refine x_iald dL_law_1461 (fun x311 => ?_)
          refine cmL_164 rfl hs (Nat.le_of_ble_eq_true rfl) dL_law_1462 (fun x313 M312 => ?_)
          refine x_icmp_eq (tgt := 1569) dL_law_1465 (by decide) (fun _ => ?_) (fun _ => ?_)
          · exact x_weak (by exact ⟨rfl, ⟨rfl, ⟨rfl, ⟨rfl, trivial⟩⟩⟩⟩) (hj1569 M312)
          · refine x_iconst (v := 0) dL_law_1468 (by decide) ?_
            exact x_zret rfl dL_law_1469
        · refine x_aload_n dL_law_1470 rfl ?_
          refine x_aload_n dL_law_1471 rfl ?_
          refine x_iload_n dL_law_1472 rfl ?_
          refine x_iconst (v := 1) dL_law_1473 (by decide) ?_
          refine x_iadd dL_law_1474 ?_
          refine x_iald dL_law_1475 (fun x314 => ?_)
          refine x_aload_n dL_law_1476 rfl ?_
          refine x_iload_n dL_law_1477 rfl ?_
          refine x_iconst (v := 2) dL_law_1478 (by decide) ?_
          refine x_iadd dL_law_1479 ?_
          refine x_iald dL_law_1480 (fun x315 => ?_)
          refine cmL_165 rfl hs (Nat.le_of_ble_eq_true rfl) dL_law_1481 (fun x317 M316 => ?_)
          refine x_aload_n dL_law_1484 rfl ?_
          refine x_aload_n dL_law_1485 rfl ?_
          refine x_iload_n dL_law_1486 rfl ?_
          refine x_iconst (v := 1) dL_law_1487 (by decide) ?_
          refine x_iadd dL_law_1488 ?_
          refine x_iald dL_law_1489 (fun x318 => ?_)
          refine x_aload_n dL_law_1490 rfl ?_
          refine x_iload_n dL_law_1491 rfl ?_
          refine x_iconst (v := 2) dL_law_1492 (by decide) ?_
          refine x_iadd dL_law_1493 ?_
          refine x_iald dL_law_1494 (fun x319 => ?_)
          refine cmL_168 rfl hs (Nat.le_of_ble_eq_true rfl) dL_law_1495 (fun x321 M320 => ?_)
          refine x_icmp_eq (tgt := 1569) dL_law_1498 (by decide) (fun _ => ?_) (fun _ => ?_)
          · exact x_weak (by exact ⟨rfl, ⟨rfl, ⟨rfl, ⟨rfl, trivial⟩⟩⟩⟩) (hj1569 M320)
          · refine x_iconst (v := 0) dL_law_1501 (by decide) ?_
            exact x_zret rfl dL_law_1502
        · refine x_aload_n dL_law_1503 rfl ?_
          refine x_aload_n dL_law_1504 rfl ?_
          refine x_iload_n dL_law_1505 rfl ?_
          refine x_iconst (v := 1) dL_law_1506 (by decide) ?_
          refine x_iadd dL_law_1507 ?_
          refine x_iald dL_law_1508 (fun x322 => ?_)
          refine x_aload_n dL_law_1509 rfl ?_
          refine x_iload_n dL_law_1510 rfl ?_
          refine x_iconst (v := 2) dL_law_1511 (by decide) ?_
          refine x_iadd dL_law_1512 ?_
          refine x_iald dL_law_1513 (fun x323 => ?_)
          refine cmL_169 rfl hs (Nat.le_of_ble_eq_true rfl) dL_law_1514 (fun x325 M324 => ?_)
          refine x_aload_n dL_law_1517 rfl ?_
          refine x_aload_n dL_law_1518 rfl ?_
          refine x_iload_n dL_law_1519 rfl ?_
          refine x_iconst (v := 1) dL_law_1520 (by decide) ?_
          refine x_iadd dL_law_1521 ?_
          refine x_iald dL_law_1522 (fun x326 => ?_)
          refine x_aload_n dL_law_1523 rfl ?_
          refine x_iload_n dL_law_1524 rfl ?_
          refine x_iconst (v := 2) dL_law_1525 (by decide) ?_
          refine x_iadd dL_law_1526 ?_
          refine x_iald dL_law_1527 (fun x327 => ?_)
          refine cmL_172 rfl hs (Nat.le_of_ble_eq_true rfl) dL_law_1528 (fun x329 M328 => ?_)
          refine x_icmp_eq (tgt := 1569) dL_law_1531 (by decide) (fun _ => ?_) (fun _ => ?_)
          · exact x_weak (by exact ⟨rfl, ⟨rfl, ⟨rfl, ⟨rfl, trivial⟩⟩⟩⟩) (hj1569 M328)
          · refine x_iconst (v := 0) dL_law_1534 (by decide) ?_
            exact x_zret rfl dL_law_1535
        · refine x_aload_n dL_law_1536 rfl ?_
          refine x_aload_n dL_law_1537 rfl ?_
          refine x_iload_n dL_law_1538 rfl ?_
          refine x_iconst (v := 1) dL_law_1539 (by decide) ?_
          refine x_iadd dL_law_1540 ?_
          refine x_iald dL_law_1541 (fun x330 => ?_)
          refine x_aload_n dL_law_1542 rfl ?_
          refine x_iload_n dL_law_1543 rfl ?_
          refine x_iconst (v := 2) dL_law_1544 (by decide) ?_
          refine x_iadd dL_law_1545 ?_
          refine x_iald dL_law_1546 (fun x331 => ?_)
          refine cmL_173 rfl hs (Nat.le_of_ble_eq_true rfl) dL_law_1547 (fun x333 M332 => ?_)
          refine x_aload_n dL_law_1550 rfl ?_
          refine x_aload_n dL_law_1551 rfl ?_
          refine x_iload_n dL_law_1552 rfl ?_
          refine x_iconst (v := 1) dL_law_1553 (by decide) ?_
          refine x_iadd dL_law_1554 ?_
          refine x_iald dL_law_1555 (fun x334 => ?_)
          refine x_aload_n dL_law_1556 rfl ?_
          refine x_iload_n dL_law_1557 rfl ?_
          refine x_iconst (v := 2) dL_law_1558 (by decide) ?_
          refine x_iadd dL_law_1559 ?_
          refine x_iald dL_law_1560 (fun x335 => ?_)
          refine cmL_176 rfl hs (Nat.le_of_ble_eq_true rfl) dL_law_1561 (fun x337 M336 => ?_)
          refine x_icmp_eq (tgt := 1569) dL_law_1564 (by decide) (fun _ => ?_) (fun _ => ?_)
          · exact x_weak (by exact ⟨rfl, ⟨rfl, ⟨rfl, ⟨rfl, trivial⟩⟩⟩⟩) (hj1569 M336)
          · refine x_iconst (v := 0) dL_law_1567 (by decide) ?_
            exact x_zret rfl dL_law_1568
      · exact x_weak (by exact ⟨rfl, ⟨rfl, ⟨rfl, ⟨rfl, trivial⟩⟩⟩⟩) (hj1569 s7.2)
