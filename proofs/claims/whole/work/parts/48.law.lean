/-! ===== the law ===== -/
theorem and31 (x : Int32) : ∃ c : Nat, c < 32 ∧ x &&& nI 31 = nI c := by
  refine ⟨(x &&& nI 31).toBitVec.toNat, ?_, ?_⟩
  · show (x.toBitVec &&& BitVec.ofNat 32 31).toNat < 32
    rw [BitVec.toNat_and]
    exact Nat.lt_of_le_of_lt Nat.and_le_right (by decide)
  · apply Int32.toBitVec_inj.mp
    show (x &&& nI 31).toBitVec = BitVec.ofNat 32 (x &&& nI 31).toBitVec.toNat
    rw [BitVec.ofNat_toNat, BitVec.setWidth_eq]
set_option maxRecDepth 20000 in
theorem L_law {E : xEx} {n : Nat} {xs : Nat → Int32} {I : Nat → Nat → Int32} {L : Nat → Nat → Int64} (hE : xEok E) (he : E 0 = some (n, xs)) (hn : n ≤ 2560) (hz : zF 0 I L) {Q : Option Value → xMem → Prop} (hend : ∀ (i : Nat) (I : Nat → Nat → Int32) (L : Nat → Nat → Int64), xW E 21 144 978 [some (.ref 1000), some (.ref 0), some (.ref 42), some (.int (nI i))] [.int (nI 1)] (xS, I, L) 63 13466 Q) : xW E 21 144 0 [some (.ref 1000), none, none, none] [] ([], I, L) 0 0 Q := by
  have loop : ∀ (m i : Nat) (s : xSt) (I : Nat → Nat → Int32) (L : Nat → Nat → Int64), i + m = n + 5 → OK s → CR s I → RR s I → xW E 21 144 18 [some (.ref 1000), some (.ref 0), some (.ref 42), some (.int (nI i))] [] (xS, I, L) 63 13466 Q := by
    intro m
    induction m using Nat.strongRecOn with
    | ind m ih =>
    intro i s I L hm hs hC hR
    by_cases hi : i + 5 ≤ n
    · have nx : ∀ (s' : xSt) (I' : Nat → Nat → Int32) (L' : Nat → Nat → Int64), OK s' → CR s' I' → RR s' I' → xW E 21 144 971 [some (.ref 1000), some (.ref 0), some (.ref 42), some (.int (nI i))] [] (xS, I', L') 63 13466 Q := by
        intro s' I' L' h1 h2 h3
        refine ws_iinc_3 974 rfl rfl (ki_5 _) rfl rfl ?_
        refine ws_goto 18 rfl rfl ?_
        exact ih (m - 5) (by omega) (i + 5) s' I' L' (by omega) h1 h2 h3
      refine ws_iload_3 19 rfl rfl ?_
      refine ws_aload_0 20 rfl rfl ?_
      refine ws_xlen 21 rfl rfl 0 rfl he rfl ?_
      refine ws_iconst 22 rfl rfl kc_i5 ?_
      refine ws_isub 23 rfl rfl (pk_sub (by omega)) ?_
      refine ws_icmp_gtn 977 26 rfl rfl rfl (by omega) (by omega) (fun h9 => absurd h9 (by omega)) (fun h9 => ?_)
      refine ws_aload_0 27 rfl rfl ?_
      refine ws_iload_3 28 rfl rfl ?_
      refine ws_xaldn 29 rfl rfl 0 rfl he (by omega) (by omega) rfl ?_
      refine ws_bipush 31 rfl rfl kc_b31 ?_
      obtain ⟨c, hc, ec⟩ := and31 (xs i)
      refine ws_iand 32 rfl rfl ec ?_
      rcases (show c = 0 ∨ c = 1 ∨ c = 2 ∨ c = 3 ∨ c = 4 ∨ c = 5 ∨ c = 6 ∨ c = 7 ∨ c = 8 ∨ c = 9 ∨ c = 10 ∨ c = 11 ∨ c = 12 ∨ c = 13 ∨ c = 14 ∨ c = 15 ∨ c = 16 ∨ c = 17 ∨ c = 18 ∨ c = 19 ∨ c = 20 ∨ c = 21 ∨ c = 22 ∨ c = 23 ∨ c = 24 ∨ c = 25 ∨ c = 26 ∨ c = 27 ∨ 28 ≤ c by omega) with rfl | rfl | rfl | rfl | rfl | rfl | rfl | rfl | rfl | rfl | rfl | rfl | rfl | rfl | rfl | rfl | rfl | rfl | rfl | rfl | rfl | rfl | rfl | rfl | rfl | rfl | rfl | rfl | h28
      · refine ws_tswn 0 0 971 160 (by omega) rfl rfl rfl (by decide) rfl rfl ?_
        obtain ⟨v, s', hs', fc, fm⟩ := f_thing (xs (i + 1)) (xs (i + 2)) (xs (i + 3)) E s hE hs
        refine ws_aload_1 161 rfl rfl ?_
        refine ws_aload_0 162 rfl rfl ?_
        refine ws_iload_3 163 rfl rfl ?_
        refine ws_iconst 164 rfl rfl kc_i1 ?_
        refine ws_iadd 165 rfl rfl (nI_add _ _) ?_
        refine ws_xaldn 166 rfl rfl 0 rfl he (by omega) (by omega) rfl ?_
        refine ws_aload_0 167 rfl rfl ?_
        refine ws_iload_3 168 rfl rfl ?_
        refine ws_iconst 169 rfl rfl kc_i2 ?_
        refine ws_iadd 170 rfl rfl (nI_add _ _) ?_
        refine ws_xaldn 171 rfl rfl 0 rfl he (by omega) (by omega) rfl ?_
        refine ws_aload_0 172 rfl rfl ?_
        refine ws_iload_3 173 rfl rfl ?_
        refine ws_iconst 174 rfl rfl kc_i3 ?_
        refine ws_iadd 175 rfl rfl (nI_add _ _) ?_
        refine ws_xaldn 176 rfl rfl 0 rfl he (by omega) (by omega) rfl ?_
        refine ws_invV3 179 rfl rfl rfl rfl (fc I L hC) rfl rfl rfl ?_
        rintro _ _ ⟨rfl, I1, L1, rfl, hC1, hf1⟩
        refine ws_aload_2 180 rfl rfl ?_
        refine ws_aload_0 181 rfl rfl ?_
        refine ws_iload_3 182 rfl rfl ?_
        refine ws_iconst 183 rfl rfl kc_i1 ?_
        refine ws_iadd 184 rfl rfl (nI_add _ _) ?_
        refine ws_xaldn 185 rfl rfl 0 rfl he (by omega) (by omega) rfl ?_
        refine ws_aload_0 186 rfl rfl ?_
        refine ws_iload_3 187 rfl rfl ?_
        refine ws_iconst 188 rfl rfl kc_i2 ?_
        refine ws_iadd 189 rfl rfl (nI_add _ _) ?_
        refine ws_xaldn 190 rfl rfl 0 rfl he (by omega) (by omega) rfl ?_
        refine ws_aload_0 191 rfl rfl ?_
        refine ws_iload_3 192 rfl rfl ?_
        refine ws_iconst 193 rfl rfl kc_i3 ?_
        refine ws_iadd 194 rfl rfl (nI_add _ _) ?_
        refine ws_xaldn 195 rfl rfl 0 rfl he (by omega) (by omega) rfl ?_
        refine ws_invV3 198 rfl rfl rfl rfl (fm I1 L1 (hR.far hf1)) rfl rfl rfl ?_
        rintro _ _ ⟨rfl, I2, L2, rfl, hR2, hf2⟩
        exact ws_icmp_eq 971 201 rfl rfl rfl (fun _ => nx s' I2 L2 hs' (hC1.far hf2) hR2) (fun h9 => absurd rfl h9)
      · refine ws_tswn 1 1 971 203 (by omega) rfl rfl rfl (by decide) rfl rfl ?_
        obtain ⟨v, s', hs', fc, fm⟩ := f_light (xs (i + 1)) (xs (i + 2)) E s hE hs
        refine ws_aload_1 204 rfl rfl ?_
        refine ws_aload_0 205 rfl rfl ?_
        refine ws_iload_3 206 rfl rfl ?_
        refine ws_iconst 207 rfl rfl kc_i1 ?_
        refine ws_iadd 208 rfl rfl (nI_add _ _) ?_
        refine ws_xaldn 209 rfl rfl 0 rfl he (by omega) (by omega) rfl ?_
        refine ws_aload_0 210 rfl rfl ?_
        refine ws_iload_3 211 rfl rfl ?_
        refine ws_iconst 212 rfl rfl kc_i2 ?_
        refine ws_iadd 213 rfl rfl (nI_add _ _) ?_
        refine ws_xaldn 214 rfl rfl 0 rfl he (by omega) (by omega) rfl ?_
        refine ws_invV2 217 rfl rfl rfl rfl (fc I L hC) rfl rfl rfl ?_
        rintro _ _ ⟨rfl, I1, L1, rfl, hC1, hf1⟩
        refine ws_aload_2 218 rfl rfl ?_
        refine ws_aload_0 219 rfl rfl ?_
        refine ws_iload_3 220 rfl rfl ?_
        refine ws_iconst 221 rfl rfl kc_i1 ?_
        refine ws_iadd 222 rfl rfl (nI_add _ _) ?_
        refine ws_xaldn 223 rfl rfl 0 rfl he (by omega) (by omega) rfl ?_
        refine ws_aload_0 224 rfl rfl ?_
        refine ws_iload_3 225 rfl rfl ?_
        refine ws_iconst 226 rfl rfl kc_i2 ?_
        refine ws_iadd 227 rfl rfl (nI_add _ _) ?_
        refine ws_xaldn 228 rfl rfl 0 rfl he (by omega) (by omega) rfl ?_
        refine ws_invV2 231 rfl rfl rfl rfl (fm I1 L1 (hR.far hf1)) rfl rfl rfl ?_
        rintro _ _ ⟨rfl, I2, L2, rfl, hR2, hf2⟩
        exact ws_icmp_eq 971 234 rfl rfl rfl (fun _ => nx s' I2 L2 hs' (hC1.far hf2) hR2) (fun h9 => absurd rfl h9)
      · refine ws_tswn 2 2 971 236 (by omega) rfl rfl rfl (by decide) rfl rfl ?_
        obtain ⟨v, s', hs', fc, fm⟩ := f_say (xs (i + 1)) E s hE hs
        refine ws_aload_1 237 rfl rfl ?_
        refine ws_aload_0 238 rfl rfl ?_
        refine ws_iload_3 239 rfl rfl ?_
        refine ws_iconst 240 rfl rfl kc_i1 ?_
        refine ws_iadd 241 rfl rfl (nI_add _ _) ?_
        refine ws_xaldn 242 rfl rfl 0 rfl he (by omega) (by omega) rfl ?_
        refine ws_invV1 245 rfl rfl rfl rfl (fc I L hC) rfl rfl rfl ?_
        rintro _ _ ⟨rfl, I1, L1, rfl, hC1, hf1⟩
        refine ws_aload_2 246 rfl rfl ?_
        refine ws_aload_0 247 rfl rfl ?_
        refine ws_iload_3 248 rfl rfl ?_
        refine ws_iconst 249 rfl rfl kc_i1 ?_
        refine ws_iadd 250 rfl rfl (nI_add _ _) ?_
        refine ws_xaldn 251 rfl rfl 0 rfl he (by omega) (by omega) rfl ?_
        refine ws_invV1 254 rfl rfl rfl rfl (fm I1 L1 (hR.far hf1)) rfl rfl rfl ?_
        rintro _ _ ⟨rfl, I2, L2, rfl, hR2, hf2⟩
        exact ws_icmp_eq 971 257 rfl rfl rfl (fun _ => nx s' I2 L2 hs' (hC1.far hf2) hR2) (fun h9 => absurd rfl h9)
      · refine ws_tswn 3 3 971 259 (by omega) rfl rfl rfl (by decide) rfl rfl ?_
        obtain ⟨v, s', hs', fc, fm⟩ := f_wipe  E s hE hs
        refine ws_aload_1 260 rfl rfl ?_
        refine ws_invV0 263 rfl rfl rfl rfl (fc I L hC) rfl rfl rfl ?_
        rintro _ _ ⟨rfl, I1, L1, rfl, hC1, hf1⟩
        refine ws_aload_2 264 rfl rfl ?_
        refine ws_invV0 267 rfl rfl rfl rfl (fm I1 L1 (hR.far hf1)) rfl rfl rfl ?_
        rintro _ _ ⟨rfl, I2, L2, rfl, hR2, hf2⟩
        exact ws_icmp_eq 971 270 rfl rfl rfl (fun _ => nx s' I2 L2 hs' (hC1.far hf2) hR2) (fun h9 => absurd rfl h9)
      · refine ws_tswn 4 4 971 272 (by omega) rfl rfl rfl (by decide) rfl rfl ?_
        obtain ⟨v, s', hs', fc, fm⟩ := f_fault (xs (i + 1)) E s hE hs
        refine ws_aload_1 273 rfl rfl ?_
        refine ws_aload_0 274 rfl rfl ?_
        refine ws_iload_3 275 rfl rfl ?_
        refine ws_iconst 276 rfl rfl kc_i1 ?_
        refine ws_iadd 277 rfl rfl (nI_add _ _) ?_
        refine ws_xaldn 278 rfl rfl 0 rfl he (by omega) (by omega) rfl ?_
        refine ws_invV1 281 rfl rfl rfl rfl (fc I L hC) rfl rfl rfl ?_
        rintro _ _ ⟨rfl, I1, L1, rfl, hC1, hf1⟩
        refine ws_aload_2 282 rfl rfl ?_
        refine ws_aload_0 283 rfl rfl ?_
        refine ws_iload_3 284 rfl rfl ?_
        refine ws_iconst 285 rfl rfl kc_i1 ?_
        refine ws_iadd 286 rfl rfl (nI_add _ _) ?_
        refine ws_xaldn 287 rfl rfl 0 rfl he (by omega) (by omega) rfl ?_
        refine ws_invV1 290 rfl rfl rfl rfl (fm I1 L1 (hR.far hf1)) rfl rfl rfl ?_
        rintro _ _ ⟨rfl, I2, L2, rfl, hR2, hf2⟩
        exact ws_icmp_eq 971 293 rfl rfl rfl (fun _ => nx s' I2 L2 hs' (hC1.far hf2) hR2) (fun h9 => absurd rfl h9)
      · refine ws_tswn 5 5 971 295 (by omega) rfl rfl rfl (by decide) rfl rfl ?_
        obtain ⟨v, s', hs', fc, fm⟩ := f_window  E s hE hs
        refine ws_aload_1 296 rfl rfl ?_
        refine ws_invV0 299 rfl rfl rfl rfl (fc I L hC) rfl rfl rfl ?_
        rintro _ _ ⟨rfl, I1, L1, rfl, hC1, hf1⟩
        refine ws_aload_2 300 rfl rfl ?_
        refine ws_invV0 303 rfl rfl rfl rfl (fm I1 L1 (hR.far hf1)) rfl rfl rfl ?_
        rintro _ _ ⟨rfl, I2, L2, rfl, hR2, hf2⟩
        exact ws_icmp_eq 971 306 rfl rfl rfl (fun _ => nx s' I2 L2 hs' (hC1.far hf2) hR2) (fun h9 => absurd rfl h9)
      · refine ws_tswn 6 6 971 308 (by omega) rfl rfl rfl (by decide) rfl rfl ?_
        obtain ⟨v, s', hs', fc, fm⟩ := f_stands (xs (i + 1)) E s hE hs
        refine ws_aload_1 309 rfl rfl ?_
        refine ws_aload_0 310 rfl rfl ?_
        refine ws_iload_3 311 rfl rfl ?_
        refine ws_iconst 312 rfl rfl kc_i1 ?_
        refine ws_iadd 313 rfl rfl (nI_add _ _) ?_
        refine ws_xaldn 314 rfl rfl 0 rfl he (by omega) (by omega) rfl ?_
        refine ws_invV1 317 rfl rfl rfl rfl (fc I L hC) rfl rfl rfl ?_
        rintro _ _ ⟨rfl, I1, L1, rfl, hC1, hf1⟩
        refine ws_aload_2 318 rfl rfl ?_
        refine ws_aload_0 319 rfl rfl ?_
        refine ws_iload_3 320 rfl rfl ?_
        refine ws_iconst 321 rfl rfl kc_i1 ?_
        refine ws_iadd 322 rfl rfl (nI_add _ _) ?_
        refine ws_xaldn 323 rfl rfl 0 rfl he (by omega) (by omega) rfl ?_
        refine ws_invV1 326 rfl rfl rfl rfl (fm I1 L1 (hR.far hf1)) rfl rfl rfl ?_
        rintro _ _ ⟨rfl, I2, L2, rfl, hR2, hf2⟩
        exact ws_icmp_eq 971 329 rfl rfl rfl (fun _ => nx s' I2 L2 hs' (hC1.far hf2) hR2) (fun h9 => absurd rfl h9)
      · refine ws_tswn 7 7 971 331 (by omega) rfl rfl rfl (by decide) rfl rfl ?_
        obtain ⟨v, s', hs', fc, fm⟩ := f_draws (xs (i + 1)) (xs (i + 2)) E s hE hs
        refine ws_aload_1 332 rfl rfl ?_
        refine ws_aload_0 333 rfl rfl ?_
        refine ws_iload_3 334 rfl rfl ?_
        refine ws_iconst 335 rfl rfl kc_i1 ?_
        refine ws_iadd 336 rfl rfl (nI_add _ _) ?_
        refine ws_xaldn 337 rfl rfl 0 rfl he (by omega) (by omega) rfl ?_
        refine ws_aload_0 338 rfl rfl ?_
        refine ws_iload_3 339 rfl rfl ?_
        refine ws_iconst 340 rfl rfl kc_i2 ?_
        refine ws_iadd 341 rfl rfl (nI_add _ _) ?_
        refine ws_xaldn 342 rfl rfl 0 rfl he (by omega) (by omega) rfl ?_
        refine ws_invV2 345 rfl rfl rfl rfl (fc I L hC) rfl rfl rfl ?_
        rintro _ _ ⟨rfl, I1, L1, rfl, hC1, hf1⟩
        refine ws_aload_2 346 rfl rfl ?_
        refine ws_aload_0 347 rfl rfl ?_
        refine ws_iload_3 348 rfl rfl ?_
        refine ws_iconst 349 rfl rfl kc_i1 ?_
        refine ws_iadd 350 rfl rfl (nI_add _ _) ?_
        refine ws_xaldn 351 rfl rfl 0 rfl he (by omega) (by omega) rfl ?_
        refine ws_aload_0 352 rfl rfl ?_
        refine ws_iload_3 353 rfl rfl ?_
        refine ws_iconst 354 rfl rfl kc_i2 ?_
        refine ws_iadd 355 rfl rfl (nI_add _ _) ?_
        refine ws_xaldn 356 rfl rfl 0 rfl he (by omega) (by omega) rfl ?_
        refine ws_invV2 359 rfl rfl rfl rfl (fm I1 L1 (hR.far hf1)) rfl rfl rfl ?_
        rintro _ _ ⟨rfl, I2, L2, rfl, hR2, hf2⟩
        exact ws_icmp_eq 971 362 rfl rfl rfl (fun _ => nx s' I2 L2 hs' (hC1.far hf2) hR2) (fun h9 => absurd rfl h9)
      · refine ws_tswn 8 8 971 364 (by omega) rfl rfl rfl (by decide) rfl rfl ?_
        obtain ⟨v, s', hs', fc, fm⟩ := f_kind (xs (i + 1)) (xs (i + 2)) (xs (i + 3)) E s hE hs
        refine ws_aload_1 365 rfl rfl ?_
        refine ws_aload_0 366 rfl rfl ?_
        refine ws_iload_3 367 rfl rfl ?_
        refine ws_iconst 368 rfl rfl kc_i1 ?_
        refine ws_iadd 369 rfl rfl (nI_add _ _) ?_
        refine ws_xaldn 370 rfl rfl 0 rfl he (by omega) (by omega) rfl ?_
        refine ws_aload_0 371 rfl rfl ?_
        refine ws_iload_3 372 rfl rfl ?_
        refine ws_iconst 373 rfl rfl kc_i2 ?_
        refine ws_iadd 374 rfl rfl (nI_add _ _) ?_
        refine ws_xaldn 375 rfl rfl 0 rfl he (by omega) (by omega) rfl ?_
        refine ws_aload_0 376 rfl rfl ?_
        refine ws_iload_3 377 rfl rfl ?_
        refine ws_iconst 378 rfl rfl kc_i3 ?_
        refine ws_iadd 379 rfl rfl (nI_add _ _) ?_
        refine ws_xaldn 380 rfl rfl 0 rfl he (by omega) (by omega) rfl ?_
        refine ws_invV3 383 rfl rfl rfl rfl (fc I L hC) rfl rfl rfl ?_
        rintro _ _ ⟨rfl, I1, L1, rfl, hC1, hf1⟩
        refine ws_aload_2 384 rfl rfl ?_
        refine ws_aload_0 385 rfl rfl ?_
        refine ws_iload_3 386 rfl rfl ?_
        refine ws_iconst 387 rfl rfl kc_i1 ?_
        refine ws_iadd 388 rfl rfl (nI_add _ _) ?_
        refine ws_xaldn 389 rfl rfl 0 rfl he (by omega) (by omega) rfl ?_
        refine ws_aload_0 390 rfl rfl ?_
        refine ws_iload_3 391 rfl rfl ?_
        refine ws_iconst 392 rfl rfl kc_i2 ?_
        refine ws_iadd 393 rfl rfl (nI_add _ _) ?_
        refine ws_xaldn 394 rfl rfl 0 rfl he (by omega) (by omega) rfl ?_
        refine ws_aload_0 395 rfl rfl ?_
        refine ws_iload_3 396 rfl rfl ?_
        refine ws_iconst 397 rfl rfl kc_i3 ?_
        refine ws_iadd 398 rfl rfl (nI_add _ _) ?_
        refine ws_xaldn 399 rfl rfl 0 rfl he (by omega) (by omega) rfl ?_
        refine ws_invV3 402 rfl rfl rfl rfl (fm I1 L1 (hR.far hf1)) rfl rfl rfl ?_
        rintro _ _ ⟨rfl, I2, L2, rfl, hR2, hf2⟩
        exact ws_icmp_eq 971 405 rfl rfl rfl (fun _ => nx s' I2 L2 hs' (hC1.far hf2) hR2) (fun h9 => absurd rfl h9)
      · refine ws_tswn 9 9 971 407 (by omega) rfl rfl rfl (by decide) rfl rfl ?_
        obtain ⟨v, s', hs', fc, fm⟩ := f_law (xs (i + 1)) E s hE hs
        refine ws_aload_1 408 rfl rfl ?_
        refine ws_aload_0 409 rfl rfl ?_
        refine ws_iload_3 410 rfl rfl ?_
        refine ws_iconst 411 rfl rfl kc_i1 ?_
        refine ws_iadd 412 rfl rfl (nI_add _ _) ?_
        refine ws_xaldn 413 rfl rfl 0 rfl he (by omega) (by omega) rfl ?_
        refine ws_invV1 416 rfl rfl rfl rfl (fc I L hC) rfl rfl rfl ?_
        rintro _ _ ⟨rfl, I1, L1, rfl, hC1, hf1⟩
        refine ws_aload_2 417 rfl rfl ?_
        refine ws_aload_0 418 rfl rfl ?_
        refine ws_iload_3 419 rfl rfl ?_
        refine ws_iconst 420 rfl rfl kc_i1 ?_
        refine ws_iadd 421 rfl rfl (nI_add _ _) ?_
        refine ws_xaldn 422 rfl rfl 0 rfl he (by omega) (by omega) rfl ?_
        refine ws_invV1 425 rfl rfl rfl rfl (fm I1 L1 (hR.far hf1)) rfl rfl rfl ?_
        rintro _ _ ⟨rfl, I2, L2, rfl, hR2, hf2⟩
        exact ws_icmp_eq 971 428 rfl rfl rfl (fun _ => nx s' I2 L2 hs' (hC1.far hf2) hR2) (fun h9 => absurd rfl h9)
      · refine ws_tswn 10 10 971 430 (by omega) rfl rfl rfl (by decide) rfl rfl ?_
        obtain ⟨v, s', hs', fc, fm⟩ := f_says (xs (i + 1)) (xs (i + 2)) (xs (i + 3)) E s hE hs
        refine ws_aload_1 431 rfl rfl ?_
        refine ws_aload_0 432 rfl rfl ?_
        refine ws_iload_3 433 rfl rfl ?_
        refine ws_iconst 434 rfl rfl kc_i1 ?_
        refine ws_iadd 435 rfl rfl (nI_add _ _) ?_
        refine ws_xaldn 436 rfl rfl 0 rfl he (by omega) (by omega) rfl ?_
        refine ws_aload_0 437 rfl rfl ?_
        refine ws_iload_3 438 rfl rfl ?_
        refine ws_iconst 439 rfl rfl kc_i2 ?_
        refine ws_iadd 440 rfl rfl (nI_add _ _) ?_
        refine ws_xaldn 441 rfl rfl 0 rfl he (by omega) (by omega) rfl ?_
        refine ws_aload_0 442 rfl rfl ?_
        refine ws_iload_3 443 rfl rfl ?_
        refine ws_iconst 444 rfl rfl kc_i3 ?_
        refine ws_iadd 445 rfl rfl (nI_add _ _) ?_
        refine ws_xaldn 446 rfl rfl 0 rfl he (by omega) (by omega) rfl ?_
        refine ws_invV3 449 rfl rfl rfl rfl (fc I L hC) rfl rfl rfl ?_
        rintro _ _ ⟨rfl, I1, L1, rfl, hC1, hf1⟩
        refine ws_aload_2 450 rfl rfl ?_
        refine ws_aload_0 451 rfl rfl ?_
        refine ws_iload_3 452 rfl rfl ?_
        refine ws_iconst 453 rfl rfl kc_i1 ?_
        refine ws_iadd 454 rfl rfl (nI_add _ _) ?_
        refine ws_xaldn 455 rfl rfl 0 rfl he (by omega) (by omega) rfl ?_
        refine ws_aload_0 456 rfl rfl ?_
        refine ws_iload_3 457 rfl rfl ?_
        refine ws_iconst 458 rfl rfl kc_i2 ?_
        refine ws_iadd 459 rfl rfl (nI_add _ _) ?_
        refine ws_xaldn 460 rfl rfl 0 rfl he (by omega) (by omega) rfl ?_
        refine ws_aload_0 461 rfl rfl ?_
        refine ws_iload_3 462 rfl rfl ?_
        refine ws_iconst 463 rfl rfl kc_i3 ?_
        refine ws_iadd 464 rfl rfl (nI_add _ _) ?_
        refine ws_xaldn 465 rfl rfl 0 rfl he (by omega) (by omega) rfl ?_
        refine ws_invV3 468 rfl rfl rfl rfl (fm I1 L1 (hR.far hf1)) rfl rfl rfl ?_
        rintro _ _ ⟨rfl, I2, L2, rfl, hR2, hf2⟩
        exact ws_icmp_eq 971 471 rfl rfl rfl (fun _ => nx s' I2 L2 hs' (hC1.far hf2) hR2) (fun h9 => absurd rfl h9)
      · refine ws_tswn 11 11 971 473 (by omega) rfl rfl rfl (by decide) rfl rfl ?_
        obtain ⟨v, s', hs', fc, fm⟩ := f_part (xs (i + 1)) (xs (i + 2)) E s hE hs
        refine ws_aload_1 474 rfl rfl ?_
        refine ws_aload_0 475 rfl rfl ?_
        refine ws_iload_3 476 rfl rfl ?_
        refine ws_iconst 477 rfl rfl kc_i1 ?_
        refine ws_iadd 478 rfl rfl (nI_add _ _) ?_
        refine ws_xaldn 479 rfl rfl 0 rfl he (by omega) (by omega) rfl ?_
        refine ws_aload_0 480 rfl rfl ?_
        refine ws_iload_3 481 rfl rfl ?_
        refine ws_iconst 482 rfl rfl kc_i2 ?_
        refine ws_iadd 483 rfl rfl (nI_add _ _) ?_
        refine ws_xaldn 484 rfl rfl 0 rfl he (by omega) (by omega) rfl ?_
        refine ws_invV2 487 rfl rfl rfl rfl (fc I L hC) rfl rfl rfl ?_
        rintro _ _ ⟨rfl, I1, L1, rfl, hC1, hf1⟩
        refine ws_aload_2 488 rfl rfl ?_
        refine ws_aload_0 489 rfl rfl ?_
        refine ws_iload_3 490 rfl rfl ?_
        refine ws_iconst 491 rfl rfl kc_i1 ?_
        refine ws_iadd 492 rfl rfl (nI_add _ _) ?_
        refine ws_xaldn 493 rfl rfl 0 rfl he (by omega) (by omega) rfl ?_
        refine ws_aload_0 494 rfl rfl ?_
        refine ws_iload_3 495 rfl rfl ?_
        refine ws_iconst 496 rfl rfl kc_i2 ?_
        refine ws_iadd 497 rfl rfl (nI_add _ _) ?_
        refine ws_xaldn 498 rfl rfl 0 rfl he (by omega) (by omega) rfl ?_
        refine ws_invV2 501 rfl rfl rfl rfl (fm I1 L1 (hR.far hf1)) rfl rfl rfl ?_
        rintro _ _ ⟨rfl, I2, L2, rfl, hR2, hf2⟩
        exact ws_icmp_eq 971 504 rfl rfl rfl (fun _ => nx s' I2 L2 hs' (hC1.far hf2) hR2) (fun h9 => absurd rfl h9)
      · refine ws_tswn 12 12 971 506 (by omega) rfl rfl rfl (by decide) rfl rfl ?_
        obtain ⟨v, s', hs', fc, fm⟩ := f_seen (xs (i + 1)) (xs (i + 2)) E s hE hs
        refine ws_aload_1 507 rfl rfl ?_
        refine ws_aload_0 508 rfl rfl ?_
        refine ws_iload_3 509 rfl rfl ?_
        refine ws_iconst 510 rfl rfl kc_i1 ?_
        refine ws_iadd 511 rfl rfl (nI_add _ _) ?_
        refine ws_xaldn 512 rfl rfl 0 rfl he (by omega) (by omega) rfl ?_
        refine ws_aload_0 513 rfl rfl ?_
        refine ws_iload_3 514 rfl rfl ?_
        refine ws_iconst 515 rfl rfl kc_i2 ?_
        refine ws_iadd 516 rfl rfl (nI_add _ _) ?_
        refine ws_xaldn 517 rfl rfl 0 rfl he (by omega) (by omega) rfl ?_
        refine ws_invV2 520 rfl rfl rfl rfl (fc I L hC) rfl rfl rfl ?_
        rintro _ _ ⟨rfl, I1, L1, rfl, hC1, hf1⟩
        refine ws_aload_2 521 rfl rfl ?_
        refine ws_aload_0 522 rfl rfl ?_
        refine ws_iload_3 523 rfl rfl ?_
        refine ws_iconst 524 rfl rfl kc_i1 ?_
        refine ws_iadd 525 rfl rfl (nI_add _ _) ?_
        refine ws_xaldn 526 rfl rfl 0 rfl he (by omega) (by omega) rfl ?_
        refine ws_aload_0 527 rfl rfl ?_
        refine ws_iload_3 528 rfl rfl ?_
        refine ws_iconst 529 rfl rfl kc_i2 ?_
        refine ws_iadd 530 rfl rfl (nI_add _ _) ?_
        refine ws_xaldn 531 rfl rfl 0 rfl he (by omega) (by omega) rfl ?_
        refine ws_invV2 534 rfl rfl rfl rfl (fm I1 L1 (hR.far hf1)) rfl rfl rfl ?_
        rintro _ _ ⟨rfl, I2, L2, rfl, hR2, hf2⟩
        exact ws_icmp_eq 971 537 rfl rfl rfl (fun _ => nx s' I2 L2 hs' (hC1.far hf2) hR2) (fun h9 => absurd rfl h9)
      · refine ws_tswn 13 13 971 539 (by omega) rfl rfl rfl (by decide) rfl rfl ?_
        obtain ⟨v, s', hs', fc, fm⟩ := f_does (xs (i + 1)) (xs (i + 2)) E s hE hs
        refine ws_aload_1 540 rfl rfl ?_
        refine ws_aload_0 541 rfl rfl ?_
        refine ws_iload_3 542 rfl rfl ?_
        refine ws_iconst 543 rfl rfl kc_i1 ?_
        refine ws_iadd 544 rfl rfl (nI_add _ _) ?_
        refine ws_xaldn 545 rfl rfl 0 rfl he (by omega) (by omega) rfl ?_
        refine ws_aload_0 546 rfl rfl ?_
        refine ws_iload_3 547 rfl rfl ?_
        refine ws_iconst 548 rfl rfl kc_i2 ?_
        refine ws_iadd 549 rfl rfl (nI_add _ _) ?_
        refine ws_xaldn 550 rfl rfl 0 rfl he (by omega) (by omega) rfl ?_
        refine ws_invV2 553 rfl rfl rfl rfl (fc I L hC) rfl rfl rfl ?_
        rintro _ _ ⟨rfl, I1, L1, rfl, hC1, hf1⟩
        refine ws_aload_2 554 rfl rfl ?_
        refine ws_aload_0 555 rfl rfl ?_
        refine ws_iload_3 556 rfl rfl ?_
        refine ws_iconst 557 rfl rfl kc_i1 ?_
        refine ws_iadd 558 rfl rfl (nI_add _ _) ?_
        refine ws_xaldn 559 rfl rfl 0 rfl he (by omega) (by omega) rfl ?_
        refine ws_aload_0 560 rfl rfl ?_
        refine ws_iload_3 561 rfl rfl ?_
        refine ws_iconst 562 rfl rfl kc_i2 ?_
        refine ws_iadd 563 rfl rfl (nI_add _ _) ?_
        refine ws_xaldn 564 rfl rfl 0 rfl he (by omega) (by omega) rfl ?_
        refine ws_invV2 567 rfl rfl rfl rfl (fm I1 L1 (hR.far hf1)) rfl rfl rfl ?_
        rintro _ _ ⟨rfl, I2, L2, rfl, hR2, hf2⟩
        exact ws_icmp_eq 971 570 rfl rfl rfl (fun _ => nx s' I2 L2 hs' (hC1.far hf2) hR2) (fun h9 => absurd rfl h9)
      · refine ws_tswn 14 14 971 572 (by omega) rfl rfl rfl (by decide) rfl rfl ?_
        obtain ⟨v, s', hs', fc, fm⟩ := f_week  E s hE hs
        refine ws_aload_1 573 rfl rfl ?_
        refine ws_invV0 576 rfl rfl rfl rfl (fc I L hC) rfl rfl rfl ?_
        rintro _ _ ⟨rfl, I1, L1, rfl, hC1, hf1⟩
        refine ws_aload_2 577 rfl rfl ?_
        refine ws_invV0 580 rfl rfl rfl rfl (fm I1 L1 (hR.far hf1)) rfl rfl rfl ?_
        rintro _ _ ⟨rfl, I2, L2, rfl, hR2, hf2⟩
        exact ws_icmp_eq 971 583 rfl rfl rfl (fun _ => nx s' I2 L2 hs' (hC1.far hf2) hR2) (fun h9 => absurd rfl h9)
      · refine ws_tswn 15 15 971 585 (by omega) rfl rfl rfl (by decide) rfl rfl ?_
        obtain ⟨v, s', hs', fc, fm⟩ := f_other (xs (i + 1)) E s hE hs
        refine ws_aload_1 586 rfl rfl ?_
        refine ws_aload_0 587 rfl rfl ?_
        refine ws_iload_3 588 rfl rfl ?_
        refine ws_iconst 589 rfl rfl kc_i1 ?_
        refine ws_iadd 590 rfl rfl (nI_add _ _) ?_
        refine ws_xaldn 591 rfl rfl 0 rfl he (by omega) (by omega) rfl ?_
        refine ws_invV1 594 rfl rfl rfl rfl (fc I L hC) rfl rfl rfl ?_
        rintro _ _ ⟨rfl, I1, L1, rfl, hC1, hf1⟩
        refine ws_aload_2 595 rfl rfl ?_
        refine ws_aload_0 596 rfl rfl ?_
        refine ws_iload_3 597 rfl rfl ?_
        refine ws_iconst 598 rfl rfl kc_i1 ?_
        refine ws_iadd 599 rfl rfl (nI_add _ _) ?_
        refine ws_xaldn 600 rfl rfl 0 rfl he (by omega) (by omega) rfl ?_
        refine ws_invV1 603 rfl rfl rfl rfl (fm I1 L1 (hR.far hf1)) rfl rfl rfl ?_
        rintro _ _ ⟨rfl, I2, L2, rfl, hR2, hf2⟩
        exact ws_icmp_eq 971 606 rfl rfl rfl (fun _ => nx s' I2 L2 hs' (hC1.far hf2) hR2) (fun h9 => absurd rfl h9)
      · refine ws_tswn 16 16 971 608 (by omega) rfl rfl rfl (by decide) rfl rfl ?_
        obtain ⟨v, s', hs', fc, fm⟩ := f_best (xs (i + 1)) (xs (i + 2)) E s hE hs
        refine ws_aload_1 609 rfl rfl ?_
        refine ws_aload_0 610 rfl rfl ?_
        refine ws_iload_3 611 rfl rfl ?_
        refine ws_iconst 612 rfl rfl kc_i1 ?_
        refine ws_iadd 613 rfl rfl (nI_add _ _) ?_
        refine ws_xaldn 614 rfl rfl 0 rfl he (by omega) (by omega) rfl ?_
        refine ws_aload_0 615 rfl rfl ?_
        refine ws_iload_3 616 rfl rfl ?_
        refine ws_iconst 617 rfl rfl kc_i2 ?_
        refine ws_iadd 618 rfl rfl (nI_add _ _) ?_
        refine ws_xaldn 619 rfl rfl 0 rfl he (by omega) (by omega) rfl ?_
        refine ws_invV2 622 rfl rfl rfl rfl (fc I L hC) rfl rfl rfl ?_
        rintro _ _ ⟨rfl, I1, L1, rfl, hC1, hf1⟩
        refine ws_aload_2 623 rfl rfl ?_
        refine ws_aload_0 624 rfl rfl ?_
        refine ws_iload_3 625 rfl rfl ?_
        refine ws_iconst 626 rfl rfl kc_i1 ?_
        refine ws_iadd 627 rfl rfl (nI_add _ _) ?_
        refine ws_xaldn 628 rfl rfl 0 rfl he (by omega) (by omega) rfl ?_
        refine ws_aload_0 629 rfl rfl ?_
        refine ws_iload_3 630 rfl rfl ?_
        refine ws_iconst 631 rfl rfl kc_i2 ?_
        refine ws_iadd 632 rfl rfl (nI_add _ _) ?_
        refine ws_xaldn 633 rfl rfl 0 rfl he (by omega) (by omega) rfl ?_
        refine ws_invV2 636 rfl rfl rfl rfl (fm I1 L1 (hR.far hf1)) rfl rfl rfl ?_
        rintro _ _ ⟨rfl, I2, L2, rfl, hR2, hf2⟩
        exact ws_icmp_eq 971 639 rfl rfl rfl (fun _ => nx s' I2 L2 hs' (hC1.far hf2) hR2) (fun h9 => absurd rfl h9)
      · refine ws_tswn 17 17 971 641 (by omega) rfl rfl rfl (by decide) rfl rfl ?_
        obtain ⟨v, s', hs', fc, fm⟩ := f_many (xs (i + 1)) E s hE hs
        refine ws_aload_1 642 rfl rfl ?_
        refine ws_aload_0 643 rfl rfl ?_
        refine ws_iload_3 644 rfl rfl ?_
        refine ws_iconst 645 rfl rfl kc_i1 ?_
        refine ws_iadd 646 rfl rfl (nI_add _ _) ?_
        refine ws_xaldn 647 rfl rfl 0 rfl he (by omega) (by omega) rfl ?_
        refine ws_invV1 650 rfl rfl rfl rfl (fc I L hC) rfl rfl rfl ?_
        rintro _ _ ⟨rfl, I1, L1, rfl, hC1, hf1⟩
        refine ws_aload_2 651 rfl rfl ?_
        refine ws_aload_0 652 rfl rfl ?_
        refine ws_iload_3 653 rfl rfl ?_
        refine ws_iconst 654 rfl rfl kc_i1 ?_
        refine ws_iadd 655 rfl rfl (nI_add _ _) ?_
        refine ws_xaldn 656 rfl rfl 0 rfl he (by omega) (by omega) rfl ?_
        refine ws_invV1 659 rfl rfl rfl rfl (fm I1 L1 (hR.far hf1)) rfl rfl rfl ?_
        rintro _ _ ⟨rfl, I2, L2, rfl, hR2, hf2⟩
        exact ws_icmp_eq 971 662 rfl rfl rfl (fun _ => nx s' I2 L2 hs' (hC1.far hf2) hR2) (fun h9 => absurd rfl h9)
      · refine ws_tswn 18 18 971 664 (by omega) rfl rfl rfl (by decide) rfl rfl ?_
        obtain ⟨v, s', hs', fc, fm⟩ := f_exchanges (xs (i + 1)) E s hE hs
        refine ws_aload_1 665 rfl rfl ?_
        refine ws_aload_0 666 rfl rfl ?_
        refine ws_iload_3 667 rfl rfl ?_
        refine ws_iconst 668 rfl rfl kc_i1 ?_
        refine ws_iadd 669 rfl rfl (nI_add _ _) ?_
        refine ws_xaldn 670 rfl rfl 0 rfl he (by omega) (by omega) rfl ?_
        refine ws_invV1 673 rfl rfl rfl rfl (fc I L hC) rfl rfl rfl ?_
        rintro _ _ ⟨rfl, I1, L1, rfl, hC1, hf1⟩
        refine ws_aload_2 674 rfl rfl ?_
        refine ws_aload_0 675 rfl rfl ?_
        refine ws_iload_3 676 rfl rfl ?_
        refine ws_iconst 677 rfl rfl kc_i1 ?_
        refine ws_iadd 678 rfl rfl (nI_add _ _) ?_
        refine ws_xaldn 679 rfl rfl 0 rfl he (by omega) (by omega) rfl ?_
        refine ws_invV1 682 rfl rfl rfl rfl (fm I1 L1 (hR.far hf1)) rfl rfl rfl ?_
        rintro _ _ ⟨rfl, I2, L2, rfl, hR2, hf2⟩
        exact ws_icmp_eq 971 685 rfl rfl rfl (fun _ => nx s' I2 L2 hs' (hC1.far hf2) hR2) (fun h9 => absurd rfl h9)
      · refine ws_tswn 19 19 971 687 (by omega) rfl rfl rfl (by decide) rfl rfl ?_
        obtain ⟨v, s', hs', fc, fm⟩ := f_rid (xs (i + 1)) (xs (i + 2)) E s hE hs
        refine ws_aload_1 688 rfl rfl ?_
        refine ws_aload_0 689 rfl rfl ?_
        refine ws_iload_3 690 rfl rfl ?_
        refine ws_iconst 691 rfl rfl kc_i1 ?_
        refine ws_iadd 692 rfl rfl (nI_add _ _) ?_
        refine ws_xaldn 693 rfl rfl 0 rfl he (by omega) (by omega) rfl ?_
        refine ws_aload_0 694 rfl rfl ?_
        refine ws_iload_3 695 rfl rfl ?_
        refine ws_iconst 696 rfl rfl kc_i2 ?_
        refine ws_iadd 697 rfl rfl (nI_add _ _) ?_
        refine ws_xaldn 698 rfl rfl 0 rfl he (by omega) (by omega) rfl ?_
        refine ws_invV2 701 rfl rfl rfl rfl (fc I L hC) rfl rfl rfl ?_
        rintro _ _ ⟨rfl, I1, L1, rfl, hC1, hf1⟩
        refine ws_aload_2 702 rfl rfl ?_
        refine ws_aload_0 703 rfl rfl ?_
        refine ws_iload_3 704 rfl rfl ?_
        refine ws_iconst 705 rfl rfl kc_i1 ?_
        refine ws_iadd 706 rfl rfl (nI_add _ _) ?_
        refine ws_xaldn 707 rfl rfl 0 rfl he (by omega) (by omega) rfl ?_
        refine ws_aload_0 708 rfl rfl ?_
        refine ws_iload_3 709 rfl rfl ?_
        refine ws_iconst 710 rfl rfl kc_i2 ?_
        refine ws_iadd 711 rfl rfl (nI_add _ _) ?_
        refine ws_xaldn 712 rfl rfl 0 rfl he (by omega) (by omega) rfl ?_
        refine ws_invV2 715 rfl rfl rfl rfl (fm I1 L1 (hR.far hf1)) rfl rfl rfl ?_
        rintro _ _ ⟨rfl, I2, L2, rfl, hR2, hf2⟩
        exact ws_icmp_eq 971 718 rfl rfl rfl (fun _ => nx s' I2 L2 hs' (hC1.far hf2) hR2) (fun h9 => absurd rfl h9)
      · refine ws_tswn 20 20 971 720 (by omega) rfl rfl rfl (by decide) rfl rfl ?_
        obtain ⟨v, s', hs', fc, fm⟩ := f_stale (xs (i + 1)) E s hE hs
        refine ws_aload_1 721 rfl rfl ?_
        refine ws_aload_0 722 rfl rfl ?_
        refine ws_iload_3 723 rfl rfl ?_
        refine ws_iconst 724 rfl rfl kc_i1 ?_
        refine ws_iadd 725 rfl rfl (nI_add _ _) ?_
        refine ws_xaldn 726 rfl rfl 0 rfl he (by omega) (by omega) rfl ?_
        refine ws_invV1 729 rfl rfl rfl rfl (fc I L hC) rfl rfl rfl ?_
        rintro _ _ ⟨rfl, I1, L1, rfl, hC1, hf1⟩
        refine ws_aload_2 730 rfl rfl ?_
        refine ws_aload_0 731 rfl rfl ?_
        refine ws_iload_3 732 rfl rfl ?_
        refine ws_iconst 733 rfl rfl kc_i1 ?_
        refine ws_iadd 734 rfl rfl (nI_add _ _) ?_
        refine ws_xaldn 735 rfl rfl 0 rfl he (by omega) (by omega) rfl ?_
        refine ws_invV1 738 rfl rfl rfl rfl (fm I1 L1 (hR.far hf1)) rfl rfl rfl ?_
        rintro _ _ ⟨rfl, I2, L2, rfl, hR2, hf2⟩
        exact ws_icmp_eq 971 741 rfl rfl rfl (fun _ => nx s' I2 L2 hs' (hC1.far hf2) hR2) (fun h9 => absurd rfl h9)
      · refine ws_tswn 21 21 971 743 (by omega) rfl rfl rfl (by decide) rfl rfl ?_
        obtain ⟨v, s', hs', fc, fm⟩ := f_mends (xs (i + 1)) E s hE hs
        refine ws_aload_1 744 rfl rfl ?_
        refine ws_aload_0 745 rfl rfl ?_
        refine ws_iload_3 746 rfl rfl ?_
        refine ws_iconst 747 rfl rfl kc_i1 ?_
        refine ws_iadd 748 rfl rfl (nI_add _ _) ?_
        refine ws_xaldn 749 rfl rfl 0 rfl he (by omega) (by omega) rfl ?_
        refine ws_invV1 752 rfl rfl rfl rfl (fc I L hC) rfl rfl rfl ?_
        rintro _ _ ⟨rfl, I1, L1, rfl, hC1, hf1⟩
        refine ws_aload_2 753 rfl rfl ?_
        refine ws_aload_0 754 rfl rfl ?_
        refine ws_iload_3 755 rfl rfl ?_
        refine ws_iconst 756 rfl rfl kc_i1 ?_
        refine ws_iadd 757 rfl rfl (nI_add _ _) ?_
        refine ws_xaldn 758 rfl rfl 0 rfl he (by omega) (by omega) rfl ?_
        refine ws_invV1 761 rfl rfl rfl rfl (fm I1 L1 (hR.far hf1)) rfl rfl rfl ?_
        rintro _ _ ⟨rfl, I2, L2, rfl, hR2, hf2⟩
        exact ws_icmp_eq 971 764 rfl rfl rfl (fun _ => nx s' I2 L2 hs' (hC1.far hf2) hR2) (fun h9 => absurd rfl h9)
      · refine ws_tswn 22 22 971 766 (by omega) rfl rfl rfl (by decide) rfl rfl ?_
        by_cases h0 : xs (i + 3) = 0
        · obtain ⟨v, s', hs', fc, fm⟩ := f_shop (xs (i + 1)) (xs (i + 2)) 0 (by omega) E s hE hs
          refine ws_aload_1 767 rfl rfl ?_
          refine ws_aload_0 768 rfl rfl ?_
          refine ws_iload_3 769 rfl rfl ?_
          refine ws_iconst 770 rfl rfl kc_i1 ?_
          refine ws_iadd 771 rfl rfl (nI_add _ _) ?_
          refine ws_xaldn 772 rfl rfl 0 rfl he (by omega) (by omega) rfl ?_
          refine ws_aload_0 773 rfl rfl ?_
          refine ws_iload_3 774 rfl rfl ?_
          refine ws_iconst 775 rfl rfl kc_i2 ?_
          refine ws_iadd 776 rfl rfl (nI_add _ _) ?_
          refine ws_xaldn 777 rfl rfl 0 rfl he (by omega) (by omega) rfl ?_
          refine ws_aload_0 778 rfl rfl ?_
          refine ws_iload_3 779 rfl rfl ?_
          refine ws_iconst 780 rfl rfl kc_i3 ?_
          refine ws_iadd 781 rfl rfl (nI_add _ _) ?_
          refine ws_xaldn 782 rfl rfl 0 rfl he (by omega) (by omega) rfl ?_
          refine ws_if_eq 789 785 rfl rfl rfl (fun h9 => ?_) (fun h9 => absurd h9 (not_not_intro h0))
          refine ws_iconst 790 rfl rfl kc_i0 ?_
          refine ws_invV3 793 rfl rfl rfl rfl (fc I L hC) rfl rfl rfl ?_
          rintro _ _ ⟨rfl, I1, L1, rfl, hC1, hf1⟩
          refine ws_aload_2 794 rfl rfl ?_
          refine ws_aload_0 795 rfl rfl ?_
          refine ws_iload_3 796 rfl rfl ?_
          refine ws_iconst 797 rfl rfl kc_i1 ?_
          refine ws_iadd 798 rfl rfl (nI_add _ _) ?_
          refine ws_xaldn 799 rfl rfl 0 rfl he (by omega) (by omega) rfl ?_
          refine ws_aload_0 800 rfl rfl ?_
          refine ws_iload_3 801 rfl rfl ?_
          refine ws_iconst 802 rfl rfl kc_i2 ?_
          refine ws_iadd 803 rfl rfl (nI_add _ _) ?_
          refine ws_xaldn 804 rfl rfl 0 rfl he (by omega) (by omega) rfl ?_
          refine ws_aload_0 805 rfl rfl ?_
          refine ws_iload_3 806 rfl rfl ?_
          refine ws_iconst 807 rfl rfl kc_i3 ?_
          refine ws_iadd 808 rfl rfl (nI_add _ _) ?_
          refine ws_xaldn 809 rfl rfl 0 rfl he (by omega) (by omega) rfl ?_
          refine ws_if_eq 816 812 rfl rfl rfl (fun h9 => ?_) (fun h9 => absurd h9 (not_not_intro h0))
          refine ws_iconst 817 rfl rfl kc_i0 ?_
          refine ws_invV3 820 rfl rfl rfl rfl (fm I1 L1 (hR.far hf1)) rfl rfl rfl ?_
          rintro _ _ ⟨rfl, I2, L2, rfl, hR2, hf2⟩
          exact ws_icmp_eq 971 823 rfl rfl rfl (fun _ => nx s' I2 L2 hs' (hC1.far hf2) hR2) (fun h9 => absurd rfl h9)
        · obtain ⟨v, s', hs', fc, fm⟩ := f_shop (xs (i + 1)) (xs (i + 2)) 1 (by omega) E s hE hs
          refine ws_aload_1 767 rfl rfl ?_
          refine ws_aload_0 768 rfl rfl ?_
          refine ws_iload_3 769 rfl rfl ?_
          refine ws_iconst 770 rfl rfl kc_i1 ?_
          refine ws_iadd 771 rfl rfl (nI_add _ _) ?_
          refine ws_xaldn 772 rfl rfl 0 rfl he (by omega) (by omega) rfl ?_
          refine ws_aload_0 773 rfl rfl ?_
          refine ws_iload_3 774 rfl rfl ?_
          refine ws_iconst 775 rfl rfl kc_i2 ?_
          refine ws_iadd 776 rfl rfl (nI_add _ _) ?_
          refine ws_xaldn 777 rfl rfl 0 rfl he (by omega) (by omega) rfl ?_
          refine ws_aload_0 778 rfl rfl ?_
          refine ws_iload_3 779 rfl rfl ?_
          refine ws_iconst 780 rfl rfl kc_i3 ?_
          refine ws_iadd 781 rfl rfl (nI_add _ _) ?_
          refine ws_xaldn 782 rfl rfl 0 rfl he (by omega) (by omega) rfl ?_
          refine ws_if_eq 789 785 rfl rfl rfl (fun h9 => absurd h9 h0) (fun h9 => ?_)
          refine ws_iconst 786 rfl rfl kc_i1 ?_
          refine ws_goto 790 rfl rfl ?_
          refine ws_invV3 793 rfl rfl rfl rfl (fc I L hC) rfl rfl rfl ?_
          rintro _ _ ⟨rfl, I1, L1, rfl, hC1, hf1⟩
          refine ws_aload_2 794 rfl rfl ?_
          refine ws_aload_0 795 rfl rfl ?_
          refine ws_iload_3 796 rfl rfl ?_
          refine ws_iconst 797 rfl rfl kc_i1 ?_
          refine ws_iadd 798 rfl rfl (nI_add _ _) ?_
          refine ws_xaldn 799 rfl rfl 0 rfl he (by omega) (by omega) rfl ?_
          refine ws_aload_0 800 rfl rfl ?_
          refine ws_iload_3 801 rfl rfl ?_
          refine ws_iconst 802 rfl rfl kc_i2 ?_
          refine ws_iadd 803 rfl rfl (nI_add _ _) ?_
          refine ws_xaldn 804 rfl rfl 0 rfl he (by omega) (by omega) rfl ?_
          refine ws_aload_0 805 rfl rfl ?_
          refine ws_iload_3 806 rfl rfl ?_
          refine ws_iconst 807 rfl rfl kc_i3 ?_
          refine ws_iadd 808 rfl rfl (nI_add _ _) ?_
          refine ws_xaldn 809 rfl rfl 0 rfl he (by omega) (by omega) rfl ?_
          refine ws_if_eq 816 812 rfl rfl rfl (fun h9 => absurd h9 h0) (fun h9 => ?_)
          refine ws_iconst 813 rfl rfl kc_i1 ?_
          refine ws_goto 817 rfl rfl ?_
          refine ws_invV3 820 rfl rfl rfl rfl (fm I1 L1 (hR.far hf1)) rfl rfl rfl ?_
          rintro _ _ ⟨rfl, I2, L2, rfl, hR2, hf2⟩
          exact ws_icmp_eq 971 823 rfl rfl rfl (fun _ => nx s' I2 L2 hs' (hC1.far hf2) hR2) (fun h9 => absurd rfl h9)
      · refine ws_tswn 23 23 971 825 (by omega) rfl rfl rfl (by decide) rfl rfl ?_
        obtain ⟨v, s', hs', fc, fm⟩ := f_lot (xs (i + 1)) E s hE hs
        refine ws_aload_1 826 rfl rfl ?_
        refine ws_aload_0 827 rfl rfl ?_
        refine ws_iload_3 828 rfl rfl ?_
        refine ws_iconst 829 rfl rfl kc_i1 ?_
        refine ws_iadd 830 rfl rfl (nI_add _ _) ?_
        refine ws_xaldn 831 rfl rfl 0 rfl he (by omega) (by omega) rfl ?_
        refine ws_invV1 834 rfl rfl rfl rfl (fc I L hC) rfl rfl rfl ?_
        rintro _ _ ⟨rfl, I1, L1, rfl, hC1, hf1⟩
        refine ws_aload_2 835 rfl rfl ?_
        refine ws_aload_0 836 rfl rfl ?_
        refine ws_iload_3 837 rfl rfl ?_
        refine ws_iconst 838 rfl rfl kc_i1 ?_
        refine ws_iadd 839 rfl rfl (nI_add _ _) ?_
        refine ws_xaldn 840 rfl rfl 0 rfl he (by omega) (by omega) rfl ?_
        refine ws_invV1 843 rfl rfl rfl rfl (fm I1 L1 (hR.far hf1)) rfl rfl rfl ?_
        rintro _ _ ⟨rfl, I2, L2, rfl, hR2, hf2⟩
        refine ws_lcmp 844 rfl rfl ?_
        exact ws_lc_eq 971 847 rfl rfl rfl (fun _ => nx s' I2 L2 hs' (hC1.far hf2) hR2) (fun h9 => absurd rfl h9)
      · refine ws_tswn 24 24 971 849 (by omega) rfl rfl rfl (by decide) rfl rfl ?_
        obtain ⟨v, s', hs', fc, fm⟩ := f_boys (xs (i + 1)) (xs (i + 2)) (xs (i + 3)) (xs (i + 4)) E s hE hs
        refine ws_aload_1 850 rfl rfl ?_
        refine ws_aload_0 851 rfl rfl ?_
        refine ws_iload_3 852 rfl rfl ?_
        refine ws_iconst 853 rfl rfl kc_i1 ?_
        refine ws_iadd 854 rfl rfl (nI_add _ _) ?_
        refine ws_xaldn 855 rfl rfl 0 rfl he (by omega) (by omega) rfl ?_
        refine ws_aload_0 856 rfl rfl ?_
        refine ws_iload_3 857 rfl rfl ?_
        refine ws_iconst 858 rfl rfl kc_i2 ?_
        refine ws_iadd 859 rfl rfl (nI_add _ _) ?_
        refine ws_xaldn 860 rfl rfl 0 rfl he (by omega) (by omega) rfl ?_
        refine ws_aload_0 861 rfl rfl ?_
        refine ws_iload_3 862 rfl rfl ?_
        refine ws_iconst 863 rfl rfl kc_i3 ?_
        refine ws_iadd 864 rfl rfl (nI_add _ _) ?_
        refine ws_xaldn 865 rfl rfl 0 rfl he (by omega) (by omega) rfl ?_
        refine ws_aload_0 866 rfl rfl ?_
        refine ws_iload_3 867 rfl rfl ?_
        refine ws_iconst 868 rfl rfl kc_i4 ?_
        refine ws_iadd 869 rfl rfl (nI_add _ _) ?_
        refine ws_xaldn 870 rfl rfl 0 rfl he (by omega) (by omega) rfl ?_
        refine ws_invV4 873 rfl rfl rfl rfl (fc I L hC) rfl rfl rfl ?_
        rintro _ _ ⟨rfl, I1, L1, rfl, hC1, hf1⟩
        refine ws_aload_2 874 rfl rfl ?_
        refine ws_aload_0 875 rfl rfl ?_
        refine ws_iload_3 876 rfl rfl ?_
        refine ws_iconst 877 rfl rfl kc_i1 ?_
        refine ws_iadd 878 rfl rfl (nI_add _ _) ?_
        refine ws_xaldn 879 rfl rfl 0 rfl he (by omega) (by omega) rfl ?_
        refine ws_aload_0 880 rfl rfl ?_
        refine ws_iload_3 881 rfl rfl ?_
        refine ws_iconst 882 rfl rfl kc_i2 ?_
        refine ws_iadd 883 rfl rfl (nI_add _ _) ?_
        refine ws_xaldn 884 rfl rfl 0 rfl he (by omega) (by omega) rfl ?_
        refine ws_aload_0 885 rfl rfl ?_
        refine ws_iload_3 886 rfl rfl ?_
        refine ws_iconst 887 rfl rfl kc_i3 ?_
        refine ws_iadd 888 rfl rfl (nI_add _ _) ?_
        refine ws_xaldn 889 rfl rfl 0 rfl he (by omega) (by omega) rfl ?_
        refine ws_aload_0 890 rfl rfl ?_
        refine ws_iload_3 891 rfl rfl ?_
        refine ws_iconst 892 rfl rfl kc_i4 ?_
        refine ws_iadd 893 rfl rfl (nI_add _ _) ?_
        refine ws_xaldn 894 rfl rfl 0 rfl he (by omega) (by omega) rfl ?_
        refine ws_invV4 897 rfl rfl rfl rfl (fm I1 L1 (hR.far hf1)) rfl rfl rfl ?_
        rintro _ _ ⟨rfl, I2, L2, rfl, hR2, hf2⟩
        exact ws_icmp_eq 971 900 rfl rfl rfl (fun _ => nx s' I2 L2 hs' (hC1.far hf2) hR2) (fun h9 => absurd rfl h9)
      · refine ws_tswn 25 25 971 902 (by omega) rfl rfl rfl (by decide) rfl rfl ?_
        obtain ⟨v, s', hs', fc, fm⟩ := f_image (xs (i + 1)) E s hE hs
        refine ws_aload_1 903 rfl rfl ?_
        refine ws_aload_0 904 rfl rfl ?_
        refine ws_iload_3 905 rfl rfl ?_
        refine ws_iconst 906 rfl rfl kc_i1 ?_
        refine ws_iadd 907 rfl rfl (nI_add _ _) ?_
        refine ws_xaldn 908 rfl rfl 0 rfl he (by omega) (by omega) rfl ?_
        refine ws_invV1 911 rfl rfl rfl rfl (fc I L hC) rfl rfl rfl ?_
        rintro _ _ ⟨rfl, I1, L1, rfl, hC1, hf1⟩
        refine ws_aload_2 912 rfl rfl ?_
        refine ws_aload_0 913 rfl rfl ?_
        refine ws_iload_3 914 rfl rfl ?_
        refine ws_iconst 915 rfl rfl kc_i1 ?_
        refine ws_iadd 916 rfl rfl (nI_add _ _) ?_
        refine ws_xaldn 917 rfl rfl 0 rfl he (by omega) (by omega) rfl ?_
        refine ws_invV1 920 rfl rfl rfl rfl (fm I1 L1 (hR.far hf1)) rfl rfl rfl ?_
        rintro _ _ ⟨rfl, I2, L2, rfl, hR2, hf2⟩
        exact ws_icmp_eq 971 923 rfl rfl rfl (fun _ => nx s' I2 L2 hs' (hC1.far hf2) hR2) (fun h9 => absurd rfl h9)
      · refine ws_tswn 26 26 971 925 (by omega) rfl rfl rfl (by decide) rfl rfl ?_
        obtain ⟨v, s', hs', fc, fm⟩ := f_restore (xs (i + 1)) E s hE hs
        refine ws_aload_1 926 rfl rfl ?_
        refine ws_aload_0 927 rfl rfl ?_
        refine ws_iload_3 928 rfl rfl ?_
        refine ws_iconst 929 rfl rfl kc_i1 ?_
        refine ws_iadd 930 rfl rfl (nI_add _ _) ?_
        refine ws_xaldn 931 rfl rfl 0 rfl he (by omega) (by omega) rfl ?_
        refine ws_invV1 934 rfl rfl rfl rfl (fc I L hC) rfl rfl rfl ?_
        rintro _ _ ⟨rfl, I1, L1, rfl, hC1, hf1⟩
        refine ws_aload_2 935 rfl rfl ?_
        refine ws_aload_0 936 rfl rfl ?_
        refine ws_iload_3 937 rfl rfl ?_
        refine ws_iconst 938 rfl rfl kc_i1 ?_
        refine ws_iadd 939 rfl rfl (nI_add _ _) ?_
        refine ws_xaldn 940 rfl rfl 0 rfl he (by omega) (by omega) rfl ?_
        refine ws_invV1 943 rfl rfl rfl rfl (fm I1 L1 (hR.far hf1)) rfl rfl rfl ?_
        rintro _ _ ⟨rfl, I2, L2, rfl, hR2, hf2⟩
        exact ws_icmp_eq 971 946 rfl rfl rfl (fun _ => nx s' I2 L2 hs' (hC1.far hf2) hR2) (fun h9 => absurd rfl h9)
      · refine ws_tswn 27 27 971 948 (by omega) rfl rfl rfl (by decide) rfl rfl ?_
        obtain ⟨v, s', hs', fc, fm⟩ := f_told (xs (i + 1)) E s hE hs
        refine ws_aload_1 949 rfl rfl ?_
        refine ws_aload_0 950 rfl rfl ?_
        refine ws_iload_3 951 rfl rfl ?_
        refine ws_iconst 952 rfl rfl kc_i1 ?_
        refine ws_iadd 953 rfl rfl (nI_add _ _) ?_
        refine ws_xaldn 954 rfl rfl 0 rfl he (by omega) (by omega) rfl ?_
        refine ws_invV1 957 rfl rfl rfl rfl (fc I L hC) rfl rfl rfl ?_
        rintro _ _ ⟨rfl, I1, L1, rfl, hC1, hf1⟩
        refine ws_aload_2 958 rfl rfl ?_
        refine ws_aload_0 959 rfl rfl ?_
        refine ws_iload_3 960 rfl rfl ?_
        refine ws_iconst 961 rfl rfl kc_i1 ?_
        refine ws_iadd 962 rfl rfl (nI_add _ _) ?_
        refine ws_xaldn 963 rfl rfl 0 rfl he (by omega) (by omega) rfl ?_
        refine ws_invV1 966 rfl rfl rfl rfl (fm I1 L1 (hR.far hf1)) rfl rfl rfl ?_
        rintro _ _ ⟨rfl, I2, L2, rfl, hR2, hf2⟩
        exact ws_icmp_eq 971 969 rfl rfl rfl (fun _ => nx s' I2 L2 hs' (hC1.far hf2) hR2) (fun h9 => absurd rfl h9)
      · refine ws_tswd 971 rfl rfl (by rw [nI_toInt (by omega)]; omega) ?_
        exact nx s I L hs hC hR
    · have hgt : nI n - nI 5 < nI i := by
        rw [i32_lt, pk_sub_toInt (by omega) (by omega), nI_toInt (by omega)]
        omega
      refine ws_iload_3 19 rfl rfl ?_
      refine ws_aload_0 20 rfl rfl ?_
      refine ws_xlen 21 rfl rfl 0 rfl he rfl ?_
      refine ws_iconst 22 rfl rfl kc_i5 ?_
      refine ws_isub 23 rfl rfl rfl ?_
      refine ws_icmp_gt 977 26 rfl rfl rfl (fun h9 => ?_) (fun h9 => absurd h9 (not_not_intro hgt))
      refine ws_iconst 978 rfl rfl kc_i1 ?_
      exact hend i I L
  refine wn_new 3 0 rfl rfl rfl rfl hz (by decide) (Nat.le_of_ble_eq_true rfl) (Nat.le_of_ble_eq_true rfl) ?_
  refine ws_dup 4 rfl rfl rfl ?_
  refine ws_invI (As := []) 7 _ _ rfl rfl rfl (i_cls hE (hz.mono (by omega))) rfl rfl rfl ?_
  rintro _ _ ⟨rfl, I1, L1, rfl, hC1, hz1⟩
  refine ws_astore_1 8 rfl rfl rfl rfl ?_
  refine wn_new 11 42 rfl rfl rfl rfl hz1 (by decide) (Nat.le_of_ble_eq_true rfl) (Nat.le_of_ble_eq_true rfl) ?_
  refine ws_dup 12 rfl rfl rfl ?_
  refine ws_invI (As := []) 15 _ _ rfl rfl rfl (i_mod hz1) rfl rfl rfl ?_
  rintro _ _ ⟨rfl, I2, rfl, hR2, hf2⟩
  refine ws_astore_2 16 rfl rfl rfl rfl ?_
  refine ws_iconst 17 rfl rfl kc_i0 ?_
  refine ws_istore_3 18 rfl rfl rfl rfl ?_
  exact loop (n + 5) 0 s00 I2 L1 (by omega) OK00 (hC1.far hf2) hR2
