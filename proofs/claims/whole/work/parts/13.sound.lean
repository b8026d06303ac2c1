def bL0 (rec : Nat → List Value → Mem → XA) : List (List Value → Mem → XA) := [b0 rec, b1 rec, b2 rec, b3 rec, b4 rec, b5 rec, b6 rec, b7 rec, b8 rec, b9 rec, b10 rec, b11 rec, b12 rec, b13 rec, b14 rec, b15 rec, b16 rec, b17 rec, b18 rec, b19 rec, b20 rec, b21 rec, b22 rec, b23 rec, b24 rec]
def bL1 (rec : Nat → List Value → Mem → XA) : List (List Value → Mem → XA) := [b25 rec, b26 rec, b27 rec, b28 rec, b29 rec, b30 rec, b31 rec, b32 rec, b33 rec, b34 rec, b35 rec, b36 rec, b37 rec, b38 rec, b39 rec, b40 rec, b41 rec, b42 rec, b43 rec, b44 rec, b45 rec, b46 rec, b47 rec, b48 rec, b49 rec]
def bL2 (rec : Nat → List Value → Mem → XA) : List (List Value → Mem → XA) := [b50 rec, b51 rec, b52 rec, b53 rec, b54 rec, b55 rec, b56 rec, b57 rec, b58 rec, b59 rec, b60 rec, b61 rec, b62 rec, b63 rec, b64 rec, b65 rec, b66 rec, b67 rec, b68 rec, b69 rec, b70 rec, b71 rec, b72 rec, b73 rec, b74 rec]
def bL3 (rec : Nat → List Value → Mem → XA) : List (List Value → Mem → XA) := [b75 rec, b76 rec, b77 rec, b78 rec, b79 rec, b80 rec, b81 rec, b82 rec, b83 rec, b84 rec, b85 rec, b86 rec, b87 rec, b88 rec, b89 rec, b90 rec, b91 rec, b92 rec, b93 rec, b94 rec, b95 rec, b96 rec, b97 rec, b98 rec, b99 rec]
def bL4 (rec : Nat → List Value → Mem → XA) : List (List Value → Mem → XA) := [b100 rec, b101 rec, b102 rec, b103 rec, b104 rec, b105 rec, b106 rec, b107 rec, b108 rec, b109 rec, b110 rec, b111 rec, b112 rec, b113 rec, b114 rec, b115 rec, b116 rec, b117 rec, b118 rec, b119 rec, b120 rec, b121 rec, b122 rec, b123 rec, b124 rec]
def bL5 (rec : Nat → List Value → Mem → XA) : List (List Value → Mem → XA) := [b125 rec, b126 rec, b127 rec, b128 rec, b129 rec, b130 rec, b131 rec, b132 rec, b133 rec, b134 rec, b135 rec, b136 rec, b137 rec, b138 rec, b139 rec, b140 rec, b141 rec, b142 rec, b143 rec, b144 rec, b145 rec, b146 rec, b147 rec, b148 rec, b149 rec]
def bL6 (rec : Nat → List Value → Mem → XA) : List (List Value → Mem → XA) := [b150 rec, b151 rec, b152 rec, b153 rec, b154 rec, b155 rec, b156 rec, b157 rec, b158 rec, b159 rec, b160 rec, b161 rec, b162 rec, b163 rec, b164 rec, b165 rec, b166 rec, b167 rec, b168 rec, b169 rec, b170 rec, b171 rec, b172 rec, b173 rec, b174 rec]
def bL7 (rec : Nat → List Value → Mem → XA) : List (List Value → Mem → XA) := [b175 rec, b176 rec, b177 rec, b178 rec, b179 rec, b180 rec, b181 rec, b182 rec, b183 rec, b184 rec, b185 rec, b186 rec, b187 rec, b188 rec, b189 rec, b190 rec, b191 rec, b192 rec, b193 rec, b194 rec, b195 rec, b196 rec, b197 rec, b198 rec, b199 rec]
def bL8 (rec : Nat → List Value → Mem → XA) : List (List Value → Mem → XA) := [b200 rec, b201 rec, b202 rec, b203 rec, b204 rec, b205 rec, b206 rec, b207 rec, b208 rec, b209 rec, b210 rec, b211 rec, b212 rec, b213 rec, b214 rec, b215 rec, b216 rec, b217 rec, b218 rec, b219 rec, b220 rec, b221 rec, b222 rec, b223 rec, b224 rec]
def bL9 (rec : Nat → List Value → Mem → XA) : List (List Value → Mem → XA) := [b225 rec, b226 rec, b227 rec, b228 rec, b229 rec, b230 rec, b231 rec, b232 rec, b233 rec, b234 rec, b235 rec, b236 rec, b237 rec, b238 rec, b239 rec, b240 rec, b241 rec, b242 rec, b243 rec, b244 rec, b245 rec, b246 rec, b247 rec, b248 rec, b249 rec]
def bL10 (rec : Nat → List Value → Mem → XA) : List (List Value → Mem → XA) := [b250 rec, b251 rec, b252 rec, b253 rec, b254 rec, b255 rec, b256 rec, b257 rec, b258 rec, b259 rec, b260 rec, b261 rec, b262 rec, b263 rec, b264 rec, b265 rec, b266 rec, b267 rec, b268 rec, b269 rec, b270 rec, b271 rec, b272 rec, b273 rec, b274 rec]
def bL11 (rec : Nat → List Value → Mem → XA) : List (List Value → Mem → XA) := [b275 rec, b276 rec, b277 rec, b278 rec, b279 rec, b280 rec, b281 rec, b282 rec, b283 rec, b284 rec, b285 rec, b286 rec, b287 rec, b288 rec, b289 rec, b290 rec, b291 rec, b292 rec, b293 rec, b294 rec, b295 rec, b296 rec, b297 rec, b298 rec, b299 rec]
def bL12 (rec : Nat → List Value → Mem → XA) : List (List Value → Mem → XA) := [b300 rec, b301 rec, b302 rec, b303 rec, b304 rec, b305 rec, b306 rec, b307 rec, b308 rec, b309 rec, b310 rec, b311 rec, b312 rec, b313 rec, b314 rec, b315 rec, b316 rec, b317 rec, b318 rec, b319 rec, b320 rec, b321 rec, b322 rec, b323 rec, b324 rec]
def bL13 (rec : Nat → List Value → Mem → XA) : List (List Value → Mem → XA) := [b325 rec, b326 rec, b327 rec, b328 rec, b329 rec, b330 rec, b331 rec, b332 rec, b333 rec, b334 rec, b335 rec, b336 rec, b337 rec, b338 rec, b339 rec, b340 rec, b341 rec, b342 rec, b343 rec, b344 rec, b345 rec, b346 rec, b347 rec, b348 rec, b349 rec]
def bL14 (rec : Nat → List Value → Mem → XA) : List (List Value → Mem → XA) := [b350 rec, b351 rec, b352 rec, b353 rec, b354 rec, b355 rec, b356 rec, b357 rec, b358 rec, b359 rec, b360 rec, b361 rec, b362 rec, b363 rec]
def bL (rec : Nat → List Value → Mem → XA) : List (List Value → Mem → XA) := bL0 rec ++ (bL1 rec ++ (bL2 rec ++ (bL3 rec ++ (bL4 rec ++ (bL5 rec ++ (bL6 rec ++ (bL7 rec ++ (bL8 rec ++ (bL9 rec ++ (bL10 rec ++ (bL11 rec ++ (bL12 rec ++ (bL13 rec ++ (bL14 rec))))))))))))))
/-- a method's meaning, those that it calls given -/
def stepX (rec : Nat → List Value → Mem → XA) (q : Nat) : List Value → Mem → XA := (bL rec).getD q (fun _ _ => none)
/-- the methods' meanings to a depth -/
def runX : Nat → Nat → List Value → Mem → XA
  | 0 => fun _ _ _ => none
  | d + 1 => stepX (runX d)
def SndF (l : Launch) (d : Nat) : Nat → List (List Value → Mem → XA) → Prop
  | _, [] => True
  | k, b :: bs => Snd1 l k b d ∧ SndF l d (k + 1) bs
theorem SndF_at {l : Launch} {d : Nat} : ∀ (L : List (List Value → Mem → XA)) (k i : Nat) (b : List Value → Mem → XA), SndF l d k L → L[i]? = some b → Snd1 l (k + i) b d
  | [], k, i, b, h, hi => by simp at hi
  | c :: L, k, 0, b, h, hi => by
    have : c = b := by simpa using hi
    exact this ▸ h.1
  | c :: L, k, i + 1, b, h, hi => by
    have := SndF_at L (k + 1) i b h.2 (by simpa using hi)
    rw [show k + (i + 1) = k + 1 + i by omega]
    exact this
theorem SndF_app {l : Launch} {d : Nat} : ∀ (A B : List (List Value → Mem → XA)) (k m : Nat), m = k + A.length → SndF l d k A → SndF l d m B → SndF l d k (A ++ B)
  | [], B, k, m, e, _, h => by
    have : m = k := by simpa using e
    exact this ▸ h
  | a :: A, B, k, m, e, h1, h2 => ⟨h1.1, SndF_app A B (k + 1) m (by rw [e]; simp; omega) h1.2 h2⟩
theorem sndL0 {l : Launch} {d : Nat} {rec : Nat → List Value → Mem → XA} (hS : Nonempty XS) (hs : XSnd l xmt rec d) : SndF l d 0 (bL0 rec) := ⟨s0 hS hs, s1 hS hs, s2 hS hs, s3 hS hs, s4 hS hs, s5 hS hs, s6 hS hs, s7 hS hs, s8 hS hs, s9 hS hs, s10 hS hs, s11 hS hs, s12 hS hs, s13 hS hs, s14 hS hs, s15 hS hs, s16 hS hs, s17 hS hs, s18 hS hs, s19 hS hs, s20 hS hs, s21 hS hs, s22 hS hs, s23 hS hs, s24 hS hs, trivial⟩
theorem sndL1 {l : Launch} {d : Nat} {rec : Nat → List Value → Mem → XA} (hS : Nonempty XS) (hs : XSnd l xmt rec d) : SndF l d 25 (bL1 rec) := ⟨s25 hS hs, s26 hS hs, s27 hS hs, s28 hS hs, s29 hS hs, s30 hS hs, s31 hS hs, s32 hS hs, s33 hS hs, s34 hS hs, s35 hS hs, s36 hS hs, s37 hS hs, s38 hS hs, s39 hS hs, s40 hS hs, s41 hS hs, s42 hS hs, s43 hS hs, s44 hS hs, s45 hS hs, s46 hS hs, s47 hS hs, s48 hS hs, s49 hS hs, trivial⟩
theorem sndL2 {l : Launch} {d : Nat} {rec : Nat → List Value → Mem → XA} (hS : Nonempty XS) (hs : XSnd l xmt rec d) : SndF l d 50 (bL2 rec) := ⟨s50 hS hs, s51 hS hs, s52 hS hs, s53 hS hs, s54 hS hs, s55 hS hs, s56 hS hs, s57 hS hs, s58 hS hs, s59 hS hs, s60 hS hs, s61 hS hs, s62 hS hs, s63 hS hs, s64 hS hs, s65 hS hs, s66 hS hs, s67 hS hs, s68 hS hs, s69 hS hs, s70 hS hs, s71 hS hs, s72 hS hs, s73 hS hs, s74 hS hs, trivial⟩
theorem sndL3 {l : Launch} {d : Nat} {rec : Nat → List Value → Mem → XA} (hS : Nonempty XS) (hs : XSnd l xmt rec d) : SndF l d 75 (bL3 rec) := ⟨s75 hS hs, s76 hS hs, s77 hS hs, s78 hS hs, s79 hS hs, s80 hS hs, s81 hS hs, s82 hS hs, s83 hS hs, s84 hS hs, s85 hS hs, s86 hS hs, s87 hS hs, s88 hS hs, s89 hS hs, s90 hS hs, s91 hS hs, s92 hS hs, s93 hS hs, s94 hS hs, s95 hS hs, s96 hS hs, s97 hS hs, s98 hS hs, s99 hS hs, trivial⟩
theorem sndL4 {l : Launch} {d : Nat} {rec : Nat → List Value → Mem → XA} (hS : Nonempty XS) (hs : XSnd l xmt rec d) : SndF l d 100 (bL4 rec) := ⟨s100 hS hs, s101 hS hs, s102 hS hs, s103 hS hs, s104 hS hs, s105 hS hs, s106 hS hs, s107 hS hs, s108 hS hs, s109 hS hs, s110 hS hs, s111 hS hs, s112 hS hs, s113 hS hs, s114 hS hs, s115 hS hs, s116 hS hs, s117 hS hs, s118 hS hs, s119 hS hs, s120 hS hs, s121 hS hs, s122 hS hs, s123 hS hs, s124 hS hs, trivial⟩
theorem sndL5 {l : Launch} {d : Nat} {rec : Nat → List Value → Mem → XA} (hS : Nonempty XS) (hs : XSnd l xmt rec d) : SndF l d 125 (bL5 rec) := ⟨s125 hS hs, s126 hS hs, s127 hS hs, s128 hS hs, s129 hS hs, s130 hS hs, s131 hS hs, s132 hS hs, s133 hS hs, s134 hS hs, s135 hS hs, s136 hS hs, s137 hS hs, s138 hS hs, s139 hS hs, s140 hS hs, s141 hS hs, s142 hS hs, s143 hS hs, s144 hS hs, s145 hS hs, s146 hS hs, s147 hS hs, s148 hS hs, s149 hS hs, trivial⟩
theorem sndL6 {l : Launch} {d : Nat} {rec : Nat → List Value → Mem → XA} (hS : Nonempty XS) (hs : XSnd l xmt rec d) : SndF l d 150 (bL6 rec) := ⟨s150 hS hs, s151 hS hs, s152 hS hs, s153 hS hs, s154 hS hs, s155 hS hs, s156 hS hs, s157 hS hs, s158 hS hs, s159 hS hs, s160 hS hs, s161 hS hs, s162 hS hs, s163 hS hs, s164 hS hs, s165 hS hs, s166 hS hs, s167 hS hs, s168 hS hs, s169 hS hs, s170 hS hs, s171 hS hs, s172 hS hs, s173 hS hs, s174 hS hs, trivial⟩
theorem sndL7 {l : Launch} {d : Nat} {rec : Nat → List Value → Mem → XA} (hS : Nonempty XS) (hs : XSnd l xmt rec d) : SndF l d 175 (bL7 rec) := ⟨s175 hS hs, s176 hS hs, s177 hS hs, s178 hS hs, s179 hS hs, s180 hS hs, s181 hS hs, s182 hS hs, s183 hS hs, s184 hS hs, s185 hS hs, s186 hS hs, s187 hS hs, s188 hS hs, s189 hS hs, s190 hS hs, s191 hS hs, s192 hS hs, s193 hS hs, s194 hS hs, s195 hS hs, s196 hS hs, s197 hS hs, s198 hS hs, s199 hS hs, trivial⟩
theorem sndL8 {l : Launch} {d : Nat} {rec : Nat → List Value → Mem → XA} (hS : Nonempty XS) (hs : XSnd l xmt rec d) : SndF l d 200 (bL8 rec) := ⟨s200 hS hs, s201 hS hs, s202 hS hs, s203 hS hs, s204 hS hs, s205 hS hs, s206 hS hs, s207 hS hs, s208 hS hs, s209 hS hs, s210 hS hs, s211 hS hs, s212 hS hs, s213 hS hs, s214 hS hs, s215 hS hs, s216 hS hs, s217 hS hs, s218 hS hs, s219 hS hs, s220 hS hs, s221 hS hs, s222 hS hs, s223 hS hs, s224 hS hs, trivial⟩
theorem sndL9 {l : Launch} {d : Nat} {rec : Nat → List Value → Mem → XA} (hS : Nonempty XS) (hs : XSnd l xmt rec d) : SndF l d 225 (bL9 rec) := ⟨s225 hS hs, s226 hS hs, s227 hS hs, s228 hS hs, s229 hS hs, s230 hS hs, s231 hS hs, s232 hS hs, s233 hS hs, s234 hS hs, s235 hS hs, s236 hS hs, s237 hS hs, s238 hS hs, s239 hS hs, s240 hS hs, s241 hS hs, s242 hS hs, s243 hS hs, s244 hS hs, s245 hS hs, s246 hS hs, s247 hS hs, s248 hS hs, s249 hS hs, trivial⟩
theorem sndL10 {l : Launch} {d : Nat} {rec : Nat → List Value → Mem → XA} (hS : Nonempty XS) (hs : XSnd l xmt rec d) : SndF l d 250 (bL10 rec) := ⟨s250 hS hs, s251 hS hs, s252 hS hs, s253 hS hs, s254 hS hs, s255 hS hs, s256 hS hs, s257 hS hs, s258 hS hs, s259 hS hs, s260 hS hs, s261 hS hs, s262 hS hs, s263 hS hs, s264 hS hs, s265 hS hs, s266 hS hs, s267 hS hs, s268 hS hs, s269 hS hs, s270 hS hs, s271 hS hs, s272 hS hs, s273 hS hs, s274 hS hs, trivial⟩
theorem sndL11 {l : Launch} {d : Nat} {rec : Nat → List Value → Mem → XA} (hS : Nonempty XS) (hs : XSnd l xmt rec d) : SndF l d 275 (bL11 rec) := ⟨s275 hS hs, s276 hS hs, s277 hS hs, s278 hS hs, s279 hS hs, s280 hS hs, s281 hS hs, s282 hS hs, s283 hS hs, s284 hS hs, s285 hS hs, s286 hS hs, s287 hS hs, s288 hS hs, s289 hS hs, s290 hS hs, s291 hS hs, s292 hS hs, s293 hS hs, s294 hS hs, s295 hS hs, s296 hS hs, s297 hS hs, s298 hS hs, s299 hS hs, trivial⟩
theorem sndL12 {l : Launch} {d : Nat} {rec : Nat → List Value → Mem → XA} (hS : Nonempty XS) (hs : XSnd l xmt rec d) : SndF l d 300 (bL12 rec) := ⟨s300 hS hs, s301 hS hs, s302 hS hs, s303 hS hs, s304 hS hs, s305 hS hs, s306 hS hs, s307 hS hs, s308 hS hs, s309 hS hs, s310 hS hs, s311 hS hs, s312 hS hs, s313 hS hs, s314 hS hs, s315 hS hs, s316 hS hs, s317 hS hs, s318 hS hs, s319 hS hs, s320 hS hs, s321 hS hs, s322 hS hs, s323 hS hs, s324 hS hs, trivial⟩
theorem sndL13 {l : Launch} {d : Nat} {rec : Nat → List Value → Mem → XA} (hS : Nonempty XS) (hs : XSnd l xmt rec d) : SndF l d 325 (bL13 rec) := ⟨s325 hS hs, s326 hS hs, s327 hS hs, s328 hS hs, s329 hS hs, s330 hS hs, s331 hS hs, s332 hS hs, s333 hS hs, s334 hS hs, s335 hS hs, s336 hS hs, s337 hS hs, s338 hS hs, s339 hS hs, s340 hS hs, s341 hS hs, s342 hS hs, s343 hS hs, s344 hS hs, s345 hS hs, s346 hS hs, s347 hS hs, s348 hS hs, s349 hS hs, trivial⟩
theorem sndL14 {l : Launch} {d : Nat} {rec : Nat → List Value → Mem → XA} (hS : Nonempty XS) (hs : XSnd l xmt rec d) : SndF l d 350 (bL14 rec) := ⟨s350 hS hs, s351 hS hs, s352 hS hs, s353 hS hs, s354 hS hs, s355 hS hs, s356 hS hs, s357 hS hs, s358 hS hs, s359 hS hs, s360 hS hs, s361 hS hs, s362 hS hs, s363 hS hs, trivial⟩
theorem sndL {l : Launch} {d : Nat} {rec : Nat → List Value → Mem → XA} (hS : Nonempty XS) (hs : XSnd l xmt rec d) : SndF l d 0 (bL rec) := SndF_app _ _ _ 25 rfl (sndL0 hS hs) (SndF_app _ _ _ 50 rfl (sndL1 hS hs) (SndF_app _ _ _ 75 rfl (sndL2 hS hs) (SndF_app _ _ _ 100 rfl (sndL3 hS hs) (SndF_app _ _ _ 125 rfl (sndL4 hS hs) (SndF_app _ _ _ 150 rfl (sndL5 hS hs) (SndF_app _ _ _ 175 rfl (sndL6 hS hs) (SndF_app _ _ _ 200 rfl (sndL7 hS hs) (SndF_app _ _ _ 225 rfl (sndL8 hS hs) (SndF_app _ _ _ 250 rfl (sndL9 hS hs) (SndF_app _ _ _ 275 rfl (sndL10 hS hs) (SndF_app _ _ _ 300 rfl (sndL11 hS hs) (SndF_app _ _ _ 325 rfl (sndL12 hS hs) (SndF_app _ _ _ 350 rfl (sndL13 hS hs) (sndL14 hS hs))))))))))))))
theorem snd_step {l : Launch} {d : Nat} {rec : Nat → List Value → Mem → XA} (hS : Nonempty XS) (hs : XSnd l xmt rec d) (q : Nat) : Snd1 l q (stepX rec q) d := by
  unfold stepX
  rw [List.getD_eq_getElem?_getD]
  cases hq : (bL rec)[q]? with
  | none => intro as M r M' h; cases h
  | some b =>
    have := SndF_at _ 0 q b (sndL hS hs) hq
    rw [Nat.zero_add] at this
    exact this
/-- the methods' meanings hold of the machine, to every depth -/
theorem snd_run (hS : Nonempty XS) (l : Launch) : ∀ d, XSnd l xmt (runX d) d
  | 0 => fun q as M r M' h => by cases h
  | d + 1 => fun q as M r M' h => snd_step hS (snd_run hS l d) q as M r M' h
theorem r0 (d : Nat) : runX (d + 1) 0 = b0 (runX d) := rfl
theorem r1 (d : Nat) : runX (d + 1) 1 = b1 (runX d) := rfl
theorem r2 (d : Nat) : runX (d + 1) 2 = b2 (runX d) := rfl
theorem r3 (d : Nat) : runX (d + 1) 3 = b3 (runX d) := rfl
theorem r4 (d : Nat) : runX (d + 1) 4 = b4 (runX d) := rfl
theorem r5 (d : Nat) : runX (d + 1) 5 = b5 (runX d) := rfl
theorem r6 (d : Nat) : runX (d + 1) 6 = b6 (runX d) := rfl
theorem r7 (d : Nat) : runX (d + 1) 7 = b7 (runX d) := rfl
theorem r8 (d : Nat) : runX (d + 1) 8 = b8 (runX d) := rfl
theorem r9 (d : Nat) : runX (d + 1) 9 = b9 (runX d) := rfl
theorem r10 (d : Nat) : runX (d + 1) 10 = b10 (runX d) := rfl
theorem r11 (d : Nat) : runX (d + 1) 11 = b11 (runX d) := rfl
theorem r12 (d : Nat) : runX (d + 1) 12 = b12 (runX d) := rfl
theorem r13 (d : Nat) : runX (d + 1) 13 = b13 (runX d) := rfl
theorem r14 (d : Nat) : runX (d + 1) 14 = b14 (runX d) := rfl
theorem r15 (d : Nat) : runX (d + 1) 15 = b15 (runX d) := rfl
theorem r16 (d : Nat) : runX (d + 1) 16 = b16 (runX d) := rfl
theorem r17 (d : Nat) : runX (d + 1) 17 = b17 (runX d) := rfl
theorem r18 (d : Nat) : runX (d + 1) 18 = b18 (runX d) := rfl
theorem r19 (d : Nat) : runX (d + 1) 19 = b19 (runX d) := rfl
theorem r20 (d : Nat) : runX (d + 1) 20 = b20 (runX d) := rfl
theorem r21 (d : Nat) : runX (d + 1) 21 = b21 (runX d) := rfl
theorem r22 (d : Nat) : runX (d + 1) 22 = b22 (runX d) := rfl
theorem r23 (d : Nat) : runX (d + 1) 23 = b23 (runX d) := rfl
theorem r24 (d : Nat) : runX (d + 1) 24 = b24 (runX d) := rfl
theorem r25 (d : Nat) : runX (d + 1) 25 = b25 (runX d) := rfl
theorem r26 (d : Nat) : runX (d + 1) 26 = b26 (runX d) := rfl
theorem r27 (d : Nat) : runX (d + 1) 27 = b27 (runX d) := rfl
theorem r28 (d : Nat) : runX (d + 1) 28 = b28 (runX d) := rfl
theorem r29 (d : Nat) : runX (d + 1) 29 = b29 (runX d) := rfl
theorem r30 (d : Nat) : runX (d + 1) 30 = b30 (runX d) := rfl
theorem r31 (d : Nat) : runX (d + 1) 31 = b31 (runX d) := rfl
theorem r32 (d : Nat) : runX (d + 1) 32 = b32 (runX d) := rfl
theorem r33 (d : Nat) : runX (d + 1) 33 = b33 (runX d) := rfl
theorem r34 (d : Nat) : runX (d + 1) 34 = b34 (runX d) := rfl
theorem r35 (d : Nat) : runX (d + 1) 35 = b35 (runX d) := rfl
theorem r36 (d : Nat) : runX (d + 1) 36 = b36 (runX d) := rfl
theorem r37 (d : Nat) : runX (d + 1) 37 = b37 (runX d) := rfl
theorem r38 (d : Nat) : runX (d + 1) 38 = b38 (runX d) := rfl
theorem r39 (d : Nat) : runX (d + 1) 39 = b39 (runX d) := rfl
theorem r40 (d : Nat) : runX (d + 1) 40 = b40 (runX d) := rfl
theorem r41 (d : Nat) : runX (d + 1) 41 = b41 (runX d) := rfl
theorem r42 (d : Nat) : runX (d + 1) 42 = b42 (runX d) := rfl
theorem r43 (d : Nat) : runX (d + 1) 43 = b43 (runX d) := rfl
theorem r44 (d : Nat) : runX (d + 1) 44 = b44 (runX d) := rfl
theorem r45 (d : Nat) : runX (d + 1) 45 = b45 (runX d) := rfl
theorem r46 (d : Nat) : runX (d + 1) 46 = b46 (runX d) := rfl
theorem r47 (d : Nat) : runX (d + 1) 47 = b47 (runX d) := rfl
theorem r48 (d : Nat) : runX (d + 1) 48 = b48 (runX d) := rfl
theorem r49 (d : Nat) : runX (d + 1) 49 = b49 (runX d) := rfl
theorem r50 (d : Nat) : runX (d + 1) 50 = b50 (runX d) := rfl
theorem r51 (d : Nat) : runX (d + 1) 51 = b51 (runX d) := rfl
theorem r52 (d : Nat) : runX (d + 1) 52 = b52 (runX d) := rfl
theorem r53 (d : Nat) : runX (d + 1) 53 = b53 (runX d) := rfl
theorem r54 (d : Nat) : runX (d + 1) 54 = b54 (runX d) := rfl
theorem r55 (d : Nat) : runX (d + 1) 55 = b55 (runX d) := rfl
theorem r56 (d : Nat) : runX (d + 1) 56 = b56 (runX d) := rfl
theorem r57 (d : Nat) : runX (d + 1) 57 = b57 (runX d) := rfl
theorem r58 (d : Nat) : runX (d + 1) 58 = b58 (runX d) := rfl
theorem r59 (d : Nat) : runX (d + 1) 59 = b59 (runX d) := rfl
theorem r60 (d : Nat) : runX (d + 1) 60 = b60 (runX d) := rfl
theorem r61 (d : Nat) : runX (d + 1) 61 = b61 (runX d) := rfl
theorem r62 (d : Nat) : runX (d + 1) 62 = b62 (runX d) := rfl
theorem r63 (d : Nat) : runX (d + 1) 63 = b63 (runX d) := rfl
theorem r64 (d : Nat) : runX (d + 1) 64 = b64 (runX d) := rfl
theorem r65 (d : Nat) : runX (d + 1) 65 = b65 (runX d) := rfl
theorem r66 (d : Nat) : runX (d + 1) 66 = b66 (runX d) := rfl
theorem r67 (d : Nat) : runX (d + 1) 67 = b67 (runX d) := rfl
theorem r68 (d : Nat) : runX (d + 1) 68 = b68 (runX d) := rfl
theorem r69 (d : Nat) : runX (d + 1) 69 = b69 (runX d) := rfl
theorem r70 (d : Nat) : runX (d + 1) 70 = b70 (runX d) := rfl
theorem r71 (d : Nat) : runX (d + 1) 71 = b71 (runX d) := rfl
theorem r72 (d : Nat) : runX (d + 1) 72 = b72 (runX d) := rfl
theorem r73 (d : Nat) : runX (d + 1) 73 = b73 (runX d) := rfl
theorem r74 (d : Nat) : runX (d + 1) 74 = b74 (runX d) := rfl
theorem r75 (d : Nat) : runX (d + 1) 75 = b75 (runX d) := rfl
theorem r76 (d : Nat) : runX (d + 1) 76 = b76 (runX d) := rfl
theorem r77 (d : Nat) : runX (d + 1) 77 = b77 (runX d) := rfl
theorem r78 (d : Nat) : runX (d + 1) 78 = b78 (runX d) := rfl
theorem r79 (d : Nat) : runX (d + 1) 79 = b79 (runX d) := rfl
theorem r80 (d : Nat) : runX (d + 1) 80 = b80 (runX d) := rfl
theorem r81 (d : Nat) : runX (d + 1) 81 = b81 (runX d) := rfl
theorem r82 (d : Nat) : runX (d + 1) 82 = b82 (runX d) := rfl
theorem r83 (d : Nat) : runX (d + 1) 83 = b83 (runX d) := rfl
theorem r84 (d : Nat) : runX (d + 1) 84 = b84 (runX d) := rfl
theorem r85 (d : Nat) : runX (d + 1) 85 = b85 (runX d) := rfl
theorem r86 (d : Nat) : runX (d + 1) 86 = b86 (runX d) := rfl
theorem r87 (d : Nat) : runX (d + 1) 87 = b87 (runX d) := rfl
theorem r88 (d : Nat) : runX (d + 1) 88 = b88 (runX d) := rfl
theorem r89 (d : Nat) : runX (d + 1) 89 = b89 (runX d) := rfl
theorem r90 (d : Nat) : runX (d + 1) 90 = b90 (runX d) := rfl
theorem r91 (d : Nat) : runX (d + 1) 91 = b91 (runX d) := rfl
theorem r92 (d : Nat) : runX (d + 1) 92 = b92 (runX d) := rfl
theorem r93 (d : Nat) : runX (d + 1) 93 = b93 (runX d) := rfl
theorem r94 (d : Nat) : runX (d + 1) 94 = b94 (runX d) := rfl
theorem r95 (d : Nat) : runX (d + 1) 95 = b95 (runX d) := rfl
theorem r96 (d : Nat) : runX (d + 1) 96 = b96 (runX d) := rfl
theorem r97 (d : Nat) : runX (d + 1) 97 = b97 (runX d) := rfl
theorem r98 (d : Nat) : runX (d + 1) 98 = b98 (runX d) := rfl
theorem r99 (d : Nat) : runX (d + 1) 99 = b99 (runX d) := rfl
theorem r100 (d : Nat) : runX (d + 1) 100 = b100 (runX d) := rfl
theorem r101 (d : Nat) : runX (d + 1) 101 = b101 (runX d) := rfl
theorem r102 (d : Nat) : runX (d + 1) 102 = b102 (runX d) := rfl
theorem r103 (d : Nat) : runX (d + 1) 103 = b103 (runX d) := rfl
theorem r104 (d : Nat) : runX (d + 1) 104 = b104 (runX d) := rfl
theorem r105 (d : Nat) : runX (d + 1) 105 = b105 (runX d) := rfl
theorem r106 (d : Nat) : runX (d + 1) 106 = b106 (runX d) := rfl
theorem r107 (d : Nat) : runX (d + 1) 107 = b107 (runX d) := rfl
theorem r108 (d : Nat) : runX (d + 1) 108 = b108 (runX d) := rfl
theorem r109 (d : Nat) : runX (d + 1) 109 = b109 (runX d) := rfl
theorem r110 (d : Nat) : runX (d + 1) 110 = b110 (runX d) := rfl
theorem r111 (d : Nat) : runX (d + 1) 111 = b111 (runX d) := rfl
theorem r112 (d : Nat) : runX (d + 1) 112 = b112 (runX d) := rfl
theorem r113 (d : Nat) : runX (d + 1) 113 = b113 (runX d) := rfl
theorem r114 (d : Nat) : runX (d + 1) 114 = b114 (runX d) := rfl
theorem r115 (d : Nat) : runX (d + 1) 115 = b115 (runX d) := rfl
theorem r116 (d : Nat) : runX (d + 1) 116 = b116 (runX d) := rfl
theorem r117 (d : Nat) : runX (d + 1) 117 = b117 (runX d) := rfl
theorem r118 (d : Nat) : runX (d + 1) 118 = b118 (runX d) := rfl
theorem r119 (d : Nat) : runX (d + 1) 119 = b119 (runX d) := rfl
theorem r120 (d : Nat) : runX (d + 1) 120 = b120 (runX d) := rfl
theorem r121 (d : Nat) : runX (d + 1) 121 = b121 (runX d) := rfl
theorem r122 (d : Nat) : runX (d + 1) 122 = b122 (runX d) := rfl
theorem r123 (d : Nat) : runX (d + 1) 123 = b123 (runX d) := rfl
theorem r124 (d : Nat) : runX (d + 1) 124 = b124 (runX d) := rfl
theorem r125 (d : Nat) : runX (d + 1) 125 = b125 (runX d) := rfl
theorem r126 (d : Nat) : runX (d + 1) 126 = b126 (runX d) := rfl
theorem r127 (d : Nat) : runX (d + 1) 127 = b127 (runX d) := rfl
theorem r128 (d : Nat) : runX (d + 1) 128 = b128 (runX d) := rfl
theorem r129 (d : Nat) : runX (d + 1) 129 = b129 (runX d) := rfl
theorem r130 (d : Nat) : runX (d + 1) 130 = b130 (runX d) := rfl
theorem r131 (d : Nat) : runX (d + 1) 131 = b131 (runX d) := rfl
theorem r132 (d : Nat) : runX (d + 1) 132 = b132 (runX d) := rfl
theorem r133 (d : Nat) : runX (d + 1) 133 = b133 (runX d) := rfl
theorem r134 (d : Nat) : runX (d + 1) 134 = b134 (runX d) := rfl
theorem r135 (d : Nat) : runX (d + 1) 135 = b135 (runX d) := rfl
theorem r136 (d : Nat) : runX (d + 1) 136 = b136 (runX d) := rfl
theorem r137 (d : Nat) : runX (d + 1) 137 = b137 (runX d) := rfl
theorem r138 (d : Nat) : runX (d + 1) 138 = b138 (runX d) := rfl
theorem r139 (d : Nat) : runX (d + 1) 139 = b139 (runX d) := rfl
theorem r140 (d : Nat) : runX (d + 1) 140 = b140 (runX d) := rfl
theorem r141 (d : Nat) : runX (d + 1) 141 = b141 (runX d) := rfl
theorem r142 (d : Nat) : runX (d + 1) 142 = b142 (runX d) := rfl
theorem r143 (d : Nat) : runX (d + 1) 143 = b143 (runX d) := rfl
theorem r144 (d : Nat) : runX (d + 1) 144 = b144 (runX d) := rfl
theorem r145 (d : Nat) : runX (d + 1) 145 = b145 (runX d) := rfl
theorem r146 (d : Nat) : runX (d + 1) 146 = b146 (runX d) := rfl
theorem r147 (d : Nat) : runX (d + 1) 147 = b147 (runX d) := rfl
theorem r148 (d : Nat) : runX (d + 1) 148 = b148 (runX d) := rfl
theorem r149 (d : Nat) : runX (d + 1) 149 = b149 (runX d) := rfl
theorem r150 (d : Nat) : runX (d + 1) 150 = b150 (runX d) := rfl
theorem r151 (d : Nat) : runX (d + 1) 151 = b151 (runX d) := rfl
theorem r152 (d : Nat) : runX (d + 1) 152 = b152 (runX d) := rfl
theorem r153 (d : Nat) : runX (d + 1) 153 = b153 (runX d) := rfl
theorem r154 (d : Nat) : runX (d + 1) 154 = b154 (runX d) := rfl
theorem r155 (d : Nat) : runX (d + 1) 155 = b155 (runX d) := rfl
theorem r156 (d : Nat) : runX (d + 1) 156 = b156 (runX d) := rfl
theorem r157 (d : Nat) : runX (d + 1) 157 = b157 (runX d) := rfl
theorem r158 (d : Nat) : runX (d + 1) 158 = b158 (runX d) := rfl
theorem r159 (d : Nat) : runX (d + 1) 159 = b159 (runX d) := rfl
theorem r160 (d : Nat) : runX (d + 1) 160 = b160 (runX d) := rfl
theorem r161 (d : Nat) : runX (d + 1) 161 = b161 (runX d) := rfl
theorem r162 (d : Nat) : runX (d + 1) 162 = b162 (runX d) := rfl
theorem r163 (d : Nat) : runX (d + 1) 163 = b163 (runX d) := rfl
theorem r164 (d : Nat) : runX (d + 1) 164 = b164 (runX d) := rfl
theorem r165 (d : Nat) : runX (d + 1) 165 = b165 (runX d) := rfl
theorem r166 (d : Nat) : runX (d + 1) 166 = b166 (runX d) := rfl
theorem r167 (d : Nat) : runX (d + 1) 167 = b167 (runX d) := rfl
theorem r168 (d : Nat) : runX (d + 1) 168 = b168 (runX d) := rfl
theorem r169 (d : Nat) : runX (d + 1) 169 = b169 (runX d) := rfl
theorem r170 (d : Nat) : runX (d + 1) 170 = b170 (runX d) := rfl
theorem r171 (d : Nat) : runX (d + 1) 171 = b171 (runX d) := rfl
theorem r172 (d : Nat) : runX (d + 1) 172 = b172 (runX d) := rfl
theorem r173 (d : Nat) : runX (d + 1) 173 = b173 (runX d) := rfl
theorem r174 (d : Nat) : runX (d + 1) 174 = b174 (runX d) := rfl
theorem r175 (d : Nat) : runX (d + 1) 175 = b175 (runX d) := rfl
theorem r176 (d : Nat) : runX (d + 1) 176 = b176 (runX d) := rfl
theorem r177 (d : Nat) : runX (d + 1) 177 = b177 (runX d) := rfl
theorem r178 (d : Nat) : runX (d + 1) 178 = b178 (runX d) := rfl
theorem r179 (d : Nat) : runX (d + 1) 179 = b179 (runX d) := rfl
theorem r180 (d : Nat) : runX (d + 1) 180 = b180 (runX d) := rfl
theorem r181 (d : Nat) : runX (d + 1) 181 = b181 (runX d) := rfl
theorem r182 (d : Nat) : runX (d + 1) 182 = b182 (runX d) := rfl
theorem r183 (d : Nat) : runX (d + 1) 183 = b183 (runX d) := rfl
theorem r184 (d : Nat) : runX (d + 1) 184 = b184 (runX d) := rfl
theorem r185 (d : Nat) : runX (d + 1) 185 = b185 (runX d) := rfl
theorem r186 (d : Nat) : runX (d + 1) 186 = b186 (runX d) := rfl
theorem r187 (d : Nat) : runX (d + 1) 187 = b187 (runX d) := rfl
theorem r188 (d : Nat) : runX (d + 1) 188 = b188 (runX d) := rfl
theorem r189 (d : Nat) : runX (d + 1) 189 = b189 (runX d) := rfl
theorem r190 (d : Nat) : runX (d + 1) 190 = b190 (runX d) := rfl
theorem r191 (d : Nat) : runX (d + 1) 191 = b191 (runX d) := rfl
theorem r192 (d : Nat) : runX (d + 1) 192 = b192 (runX d) := rfl
theorem r193 (d : Nat) : runX (d + 1) 193 = b193 (runX d) := rfl
theorem r194 (d : Nat) : runX (d + 1) 194 = b194 (runX d) := rfl
theorem r195 (d : Nat) : runX (d + 1) 195 = b195 (runX d) := rfl
theorem r196 (d : Nat) : runX (d + 1) 196 = b196 (runX d) := rfl
theorem r197 (d : Nat) : runX (d + 1) 197 = b197 (runX d) := rfl
theorem r198 (d : Nat) : runX (d + 1) 198 = b198 (runX d) := rfl
theorem r199 (d : Nat) : runX (d + 1) 199 = b199 (runX d) := rfl
theorem r200 (d : Nat) : runX (d + 1) 200 = b200 (runX d) := rfl
theorem r201 (d : Nat) : runX (d + 1) 201 = b201 (runX d) := rfl
theorem r202 (d : Nat) : runX (d + 1) 202 = b202 (runX d) := rfl
theorem r203 (d : Nat) : runX (d + 1) 203 = b203 (runX d) := rfl
theorem r204 (d : Nat) : runX (d + 1) 204 = b204 (runX d) := rfl
theorem r205 (d : Nat) : runX (d + 1) 205 = b205 (runX d) := rfl
theorem r206 (d : Nat) : runX (d + 1) 206 = b206 (runX d) := rfl
theorem r207 (d : Nat) : runX (d + 1) 207 = b207 (runX d) := rfl
theorem r208 (d : Nat) : runX (d + 1) 208 = b208 (runX d) := rfl
theorem r209 (d : Nat) : runX (d + 1) 209 = b209 (runX d) := rfl
theorem r210 (d : Nat) : runX (d + 1) 210 = b210 (runX d) := rfl
theorem r211 (d : Nat) : runX (d + 1) 211 = b211 (runX d) := rfl
theorem r212 (d : Nat) : runX (d + 1) 212 = b212 (runX d) := rfl
theorem r213 (d : Nat) : runX (d + 1) 213 = b213 (runX d) := rfl
theorem r214 (d : Nat) : runX (d + 1) 214 = b214 (runX d) := rfl
theorem r215 (d : Nat) : runX (d + 1) 215 = b215 (runX d) := rfl
theorem r216 (d : Nat) : runX (d + 1) 216 = b216 (runX d) := rfl
theorem r217 (d : Nat) : runX (d + 1) 217 = b217 (runX d) := rfl
theorem r218 (d : Nat) : runX (d + 1) 218 = b218 (runX d) := rfl
theorem r219 (d : Nat) : runX (d + 1) 219 = b219 (runX d) := rfl
theorem r220 (d : Nat) : runX (d + 1) 220 = b220 (runX d) := rfl
theorem r221 (d : Nat) : runX (d + 1) 221 = b221 (runX d) := rfl
theorem r222 (d : Nat) : runX (d + 1) 222 = b222 (runX d) := rfl
theorem r223 (d : Nat) : runX (d + 1) 223 = b223 (runX d) := rfl
theorem r224 (d : Nat) : runX (d + 1) 224 = b224 (runX d) := rfl
theorem r225 (d : Nat) : runX (d + 1) 225 = b225 (runX d) := rfl
theorem r226 (d : Nat) : runX (d + 1) 226 = b226 (runX d) := rfl
theorem r227 (d : Nat) : runX (d + 1) 227 = b227 (runX d) := rfl
theorem r228 (d : Nat) : runX (d + 1) 228 = b228 (runX d) := rfl
theorem r229 (d : Nat) : runX (d + 1) 229 = b229 (runX d) := rfl
theorem r230 (d : Nat) : runX (d + 1) 230 = b230 (runX d) := rfl
theorem r231 (d : Nat) : runX (d + 1) 231 = b231 (runX d) := rfl
theorem r232 (d : Nat) : runX (d + 1) 232 = b232 (runX d) := rfl
theorem r233 (d : Nat) : runX (d + 1) 233 = b233 (runX d) := rfl
theorem r234 (d : Nat) : runX (d + 1) 234 = b234 (runX d) := rfl
theorem r235 (d : Nat) : runX (d + 1) 235 = b235 (runX d) := rfl
theorem r236 (d : Nat) : runX (d + 1) 236 = b236 (runX d) := rfl
theorem r237 (d : Nat) : runX (d + 1) 237 = b237 (runX d) := rfl
theorem r238 (d : Nat) : runX (d + 1) 238 = b238 (runX d) := rfl
theorem r239 (d : Nat) : runX (d + 1) 239 = b239 (runX d) := rfl
theorem r240 (d : Nat) : runX (d + 1) 240 = b240 (runX d) := rfl
theorem r241 (d : Nat) : runX (d + 1) 241 = b241 (runX d) := rfl
theorem r242 (d : Nat) : runX (d + 1) 242 = b242 (runX d) := rfl
theorem r243 (d : Nat) : runX (d + 1) 243 = b243 (runX d) := rfl
theorem r244 (d : Nat) : runX (d + 1) 244 = b244 (runX d) := rfl
theorem r245 (d : Nat) : runX (d + 1) 245 = b245 (runX d) := rfl
theorem r246 (d : Nat) : runX (d + 1) 246 = b246 (runX d) := rfl
theorem r247 (d : Nat) : runX (d + 1) 247 = b247 (runX d) := rfl
theorem r248 (d : Nat) : runX (d + 1) 248 = b248 (runX d) := rfl
theorem r249 (d : Nat) : runX (d + 1) 249 = b249 (runX d) := rfl
theorem r250 (d : Nat) : runX (d + 1) 250 = b250 (runX d) := rfl
theorem r251 (d : Nat) : runX (d + 1) 251 = b251 (runX d) := rfl
theorem r252 (d : Nat) : runX (d + 1) 252 = b252 (runX d) := rfl
theorem r253 (d : Nat) : runX (d + 1) 253 = b253 (runX d) := rfl
theorem r254 (d : Nat) : runX (d + 1) 254 = b254 (runX d) := rfl
theorem r255 (d : Nat) : runX (d + 1) 255 = b255 (runX d) := rfl
theorem r256 (d : Nat) : runX (d + 1) 256 = b256 (runX d) := rfl
theorem r257 (d : Nat) : runX (d + 1) 257 = b257 (runX d) := rfl
theorem r258 (d : Nat) : runX (d + 1) 258 = b258 (runX d) := rfl
theorem r259 (d : Nat) : runX (d + 1) 259 = b259 (runX d) := rfl
theorem r260 (d : Nat) : runX (d + 1) 260 = b260 (runX d) := rfl
theorem r261 (d : Nat) : runX (d + 1) 261 = b261 (runX d) := rfl
theorem r262 (d : Nat) : runX (d + 1) 262 = b262 (runX d) := rfl
theorem r263 (d : Nat) : runX (d + 1) 263 = b263 (runX d) := rfl
theorem r264 (d : Nat) : runX (d + 1) 264 = b264 (runX d) := rfl
theorem r265 (d : Nat) : runX (d + 1) 265 = b265 (runX d) := rfl
theorem r266 (d : Nat) : runX (d + 1) 266 = b266 (runX d) := rfl
theorem r267 (d : Nat) : runX (d + 1) 267 = b267 (runX d) := rfl
theorem r268 (d : Nat) : runX (d + 1) 268 = b268 (runX d) := rfl
theorem r269 (d : Nat) : runX (d + 1) 269 = b269 (runX d) := rfl
theorem r270 (d : Nat) : runX (d + 1) 270 = b270 (runX d) := rfl
theorem r271 (d : Nat) : runX (d + 1) 271 = b271 (runX d) := rfl
theorem r272 (d : Nat) : runX (d + 1) 272 = b272 (runX d) := rfl
theorem r273 (d : Nat) : runX (d + 1) 273 = b273 (runX d) := rfl
theorem r274 (d : Nat) : runX (d + 1) 274 = b274 (runX d) := rfl
theorem r275 (d : Nat) : runX (d + 1) 275 = b275 (runX d) := rfl
theorem r276 (d : Nat) : runX (d + 1) 276 = b276 (runX d) := rfl
theorem r277 (d : Nat) : runX (d + 1) 277 = b277 (runX d) := rfl
theorem r278 (d : Nat) : runX (d + 1) 278 = b278 (runX d) := rfl
theorem r279 (d : Nat) : runX (d + 1) 279 = b279 (runX d) := rfl
theorem r280 (d : Nat) : runX (d + 1) 280 = b280 (runX d) := rfl
theorem r281 (d : Nat) : runX (d + 1) 281 = b281 (runX d) := rfl
theorem r282 (d : Nat) : runX (d + 1) 282 = b282 (runX d) := rfl
theorem r283 (d : Nat) : runX (d + 1) 283 = b283 (runX d) := rfl
theorem r284 (d : Nat) : runX (d + 1) 284 = b284 (runX d) := rfl
theorem r285 (d : Nat) : runX (d + 1) 285 = b285 (runX d) := rfl
theorem r286 (d : Nat) : runX (d + 1) 286 = b286 (runX d) := rfl
theorem r287 (d : Nat) : runX (d + 1) 287 = b287 (runX d) := rfl
theorem r288 (d : Nat) : runX (d + 1) 288 = b288 (runX d) := rfl
theorem r289 (d : Nat) : runX (d + 1) 289 = b289 (runX d) := rfl
theorem r290 (d : Nat) : runX (d + 1) 290 = b290 (runX d) := rfl
theorem r291 (d : Nat) : runX (d + 1) 291 = b291 (runX d) := rfl
theorem r292 (d : Nat) : runX (d + 1) 292 = b292 (runX d) := rfl
theorem r293 (d : Nat) : runX (d + 1) 293 = b293 (runX d) := rfl
theorem r294 (d : Nat) : runX (d + 1) 294 = b294 (runX d) := rfl
theorem r295 (d : Nat) : runX (d + 1) 295 = b295 (runX d) := rfl
theorem r296 (d : Nat) : runX (d + 1) 296 = b296 (runX d) := rfl
theorem r297 (d : Nat) : runX (d + 1) 297 = b297 (runX d) := rfl
theorem r298 (d : Nat) : runX (d + 1) 298 = b298 (runX d) := rfl
theorem r299 (d : Nat) : runX (d + 1) 299 = b299 (runX d) := rfl
theorem r300 (d : Nat) : runX (d + 1) 300 = b300 (runX d) := rfl
theorem r301 (d : Nat) : runX (d + 1) 301 = b301 (runX d) := rfl
theorem r302 (d : Nat) : runX (d + 1) 302 = b302 (runX d) := rfl
theorem r303 (d : Nat) : runX (d + 1) 303 = b303 (runX d) := rfl
theorem r304 (d : Nat) : runX (d + 1) 304 = b304 (runX d) := rfl
theorem r305 (d : Nat) : runX (d + 1) 305 = b305 (runX d) := rfl
theorem r306 (d : Nat) : runX (d + 1) 306 = b306 (runX d) := rfl
theorem r307 (d : Nat) : runX (d + 1) 307 = b307 (runX d) := rfl
theorem r308 (d : Nat) : runX (d + 1) 308 = b308 (runX d) := rfl
theorem r309 (d : Nat) : runX (d + 1) 309 = b309 (runX d) := rfl
theorem r310 (d : Nat) : runX (d + 1) 310 = b310 (runX d) := rfl
theorem r311 (d : Nat) : runX (d + 1) 311 = b311 (runX d) := rfl
theorem r312 (d : Nat) : runX (d + 1) 312 = b312 (runX d) := rfl
theorem r313 (d : Nat) : runX (d + 1) 313 = b313 (runX d) := rfl
theorem r314 (d : Nat) : runX (d + 1) 314 = b314 (runX d) := rfl
theorem r315 (d : Nat) : runX (d + 1) 315 = b315 (runX d) := rfl
theorem r316 (d : Nat) : runX (d + 1) 316 = b316 (runX d) := rfl
theorem r317 (d : Nat) : runX (d + 1) 317 = b317 (runX d) := rfl
theorem r318 (d : Nat) : runX (d + 1) 318 = b318 (runX d) := rfl
theorem r319 (d : Nat) : runX (d + 1) 319 = b319 (runX d) := rfl
theorem r320 (d : Nat) : runX (d + 1) 320 = b320 (runX d) := rfl
theorem r321 (d : Nat) : runX (d + 1) 321 = b321 (runX d) := rfl
theorem r322 (d : Nat) : runX (d + 1) 322 = b322 (runX d) := rfl
theorem r323 (d : Nat) : runX (d + 1) 323 = b323 (runX d) := rfl
theorem r324 (d : Nat) : runX (d + 1) 324 = b324 (runX d) := rfl
theorem r325 (d : Nat) : runX (d + 1) 325 = b325 (runX d) := rfl
theorem r326 (d : Nat) : runX (d + 1) 326 = b326 (runX d) := rfl
theorem r327 (d : Nat) : runX (d + 1) 327 = b327 (runX d) := rfl
theorem r328 (d : Nat) : runX (d + 1) 328 = b328 (runX d) := rfl
theorem r329 (d : Nat) : runX (d + 1) 329 = b329 (runX d) := rfl
theorem r330 (d : Nat) : runX (d + 1) 330 = b330 (runX d) := rfl
theorem r331 (d : Nat) : runX (d + 1) 331 = b331 (runX d) := rfl
theorem r332 (d : Nat) : runX (d + 1) 332 = b332 (runX d) := rfl
theorem r333 (d : Nat) : runX (d + 1) 333 = b333 (runX d) := rfl
theorem r334 (d : Nat) : runX (d + 1) 334 = b334 (runX d) := rfl
theorem r335 (d : Nat) : runX (d + 1) 335 = b335 (runX d) := rfl
theorem r336 (d : Nat) : runX (d + 1) 336 = b336 (runX d) := rfl
theorem r337 (d : Nat) : runX (d + 1) 337 = b337 (runX d) := rfl
theorem r338 (d : Nat) : runX (d + 1) 338 = b338 (runX d) := rfl
theorem r339 (d : Nat) : runX (d + 1) 339 = b339 (runX d) := rfl
theorem r340 (d : Nat) : runX (d + 1) 340 = b340 (runX d) := rfl
theorem r341 (d : Nat) : runX (d + 1) 341 = b341 (runX d) := rfl
theorem r342 (d : Nat) : runX (d + 1) 342 = b342 (runX d) := rfl
theorem r343 (d : Nat) : runX (d + 1) 343 = b343 (runX d) := rfl
theorem r344 (d : Nat) : runX (d + 1) 344 = b344 (runX d) := rfl
theorem r345 (d : Nat) : runX (d + 1) 345 = b345 (runX d) := rfl
theorem r346 (d : Nat) : runX (d + 1) 346 = b346 (runX d) := rfl
theorem r347 (d : Nat) : runX (d + 1) 347 = b347 (runX d) := rfl
theorem r348 (d : Nat) : runX (d + 1) 348 = b348 (runX d) := rfl
theorem r349 (d : Nat) : runX (d + 1) 349 = b349 (runX d) := rfl
theorem r350 (d : Nat) : runX (d + 1) 350 = b350 (runX d) := rfl
theorem r351 (d : Nat) : runX (d + 1) 351 = b351 (runX d) := rfl
theorem r352 (d : Nat) : runX (d + 1) 352 = b352 (runX d) := rfl
theorem r353 (d : Nat) : runX (d + 1) 353 = b353 (runX d) := rfl
theorem r354 (d : Nat) : runX (d + 1) 354 = b354 (runX d) := rfl
theorem r355 (d : Nat) : runX (d + 1) 355 = b355 (runX d) := rfl
theorem r356 (d : Nat) : runX (d + 1) 356 = b356 (runX d) := rfl
theorem r357 (d : Nat) : runX (d + 1) 357 = b357 (runX d) := rfl
theorem r358 (d : Nat) : runX (d + 1) 358 = b358 (runX d) := rfl
theorem r359 (d : Nat) : runX (d + 1) 359 = b359 (runX d) := rfl
theorem r360 (d : Nat) : runX (d + 1) 360 = b360 (runX d) := rfl
theorem r361 (d : Nat) : runX (d + 1) 361 = b361 (runX d) := rfl
theorem r362 (d : Nat) : runX (d + 1) 362 = b362 (runX d) := rfl
theorem r363 (d : Nat) : runX (d + 1) 363 = b363 (runX d) := rfl
