theorem dL_law_2017 : decode cL_law 2017 = .ok (.aload_n 1, 1) := by decide +kernel
theorem dL_law_2018 : decode cL_law 2018 = .ok (.aload_n 0, 1) := by decide +kernel
theorem dL_law_2019 : decode cL_law 2019 = .ok (.iload 4, 2) := by decide +kernel
theorem dL_law_2021 : decode cL_law 2021 = .ok (.iconst 1, 1) := by decide +kernel
theorem dL_law_2022 : decode cL_law 2022 = .ok (.iadd, 1) := by decide +kernel
theorem dL_law_2023 : decode cL_law 2023 = .ok (.iaload, 1) := by decide +kernel
theorem dL_law_2024 : decode cL_law 2024 = .ok (.aload_n 0, 1) := by decide +kernel
theorem dL_law_2025 : decode cL_law 2025 = .ok (.iload 4, 2) := by decide +kernel
theorem dL_law_2027 : decode cL_law 2027 = .ok (.iconst 2, 1) := by decide +kernel
theorem dL_law_2028 : decode cL_law 2028 = .ok (.iadd, 1) := by decide +kernel
theorem dL_law_2029 : decode cL_law 2029 = .ok (.iaload, 1) := by decide +kernel
theorem dL_law_2030 : decode cL_law 2030 = .ok (.aload_n 0, 1) := by decide +kernel
theorem dL_law_2031 : decode cL_law 2031 = .ok (.iload 4, 2) := by decide +kernel
theorem dL_law_2033 : decode cL_law 2033 = .ok (.iconst 3, 1) := by decide +kernel
theorem dL_law_2034 : decode cL_law 2034 = .ok (.iadd, 1) := by decide +kernel
theorem dL_law_2035 : decode cL_law 2035 = .ok (.iaload, 1) := by decide +kernel
theorem dL_law_2036 : decode cL_law 2036 = .ok (.aload_n 0, 1) := by decide +kernel
theorem dL_law_2037 : decode cL_law 2037 = .ok (.iload 4, 2) := by decide +kernel
theorem dL_law_2039 : decode cL_law 2039 = .ok (.iconst 4, 1) := by decide +kernel
theorem dL_law_2040 : decode cL_law 2040 = .ok (.iadd, 1) := by decide +kernel
theorem dL_law_2041 : decode cL_law 2041 = .ok (.iaload, 1) := by decide +kernel
theorem dL_law_2042 : decode cL_law 2042 = .ok (.aload_n 0, 1) := by decide +kernel
theorem dL_law_2043 : decode cL_law 2043 = .ok (.iload 4, 2) := by decide +kernel
theorem dL_law_2045 : decode cL_law 2045 = .ok (.iconst 5, 1) := by decide +kernel
theorem dL_law_2046 : decode cL_law 2046 = .ok (.iadd, 1) := by decide +kernel
theorem dL_law_2047 : decode cL_law 2047 = .ok (.iaload, 1) := by decide +kernel
theorem dL_law_2048 : decode cL_law 2048 = .ok (.aload_n 3, 1) := by decide +kernel
theorem dL_law_2049 : decode cL_law 2049 = .ok (.invokestatic 215, 3) := by decide +kernel
theorem dL_law_2052 : decode cL_law 2052 = .ok (.istore 5, 2) := by decide +kernel
theorem dL_law_2054 : decode cL_law 2054 = .ok (.aload_n 2, 1) := by decide +kernel
theorem dL_law_2055 : decode cL_law 2055 = .ok (.aload_n 0, 1) := by decide +kernel
theorem dL_law_2056 : decode cL_law 2056 = .ok (.iload 4, 2) := by decide +kernel
theorem dL_law_2058 : decode cL_law 2058 = .ok (.iconst 1, 1) := by decide +kernel
theorem dL_law_2059 : decode cL_law 2059 = .ok (.iadd, 1) := by decide +kernel
theorem dL_law_2060 : decode cL_law 2060 = .ok (.iaload, 1) := by decide +kernel
theorem dL_law_2061 : decode cL_law 2061 = .ok (.aload_n 0, 1) := by decide +kernel
theorem dL_law_2062 : decode cL_law 2062 = .ok (.iload 4, 2) := by decide +kernel
theorem dL_law_2064 : decode cL_law 2064 = .ok (.iconst 2, 1) := by decide +kernel
theorem dL_law_2065 : decode cL_law 2065 = .ok (.iadd, 1) := by decide +kernel
theorem dL_law_2066 : decode cL_law 2066 = .ok (.iaload, 1) := by decide +kernel
theorem dL_law_2067 : decode cL_law 2067 = .ok (.aload_n 0, 1) := by decide +kernel
theorem dL_law_2068 : decode cL_law 2068 = .ok (.iload 4, 2) := by decide +kernel
theorem dL_law_2070 : decode cL_law 2070 = .ok (.iconst 3, 1) := by decide +kernel
theorem dL_law_2071 : decode cL_law 2071 = .ok (.iadd, 1) := by decide +kernel
theorem dL_law_2072 : decode cL_law 2072 = .ok (.iaload, 1) := by decide +kernel
theorem dL_law_2073 : decode cL_law 2073 = .ok (.aload_n 0, 1) := by decide +kernel
theorem dL_law_2074 : decode cL_law 2074 = .ok (.iload 4, 2) := by decide +kernel
theorem dL_law_2076 : decode cL_law 2076 = .ok (.iconst 4, 1) := by decide +kernel
theorem dL_law_2077 : decode cL_law 2077 = .ok (.iadd, 1) := by decide +kernel
theorem dL_law_2078 : decode cL_law 2078 = .ok (.iaload, 1) := by decide +kernel
theorem dL_law_2079 : decode cL_law 2079 = .ok (.aload_n 0, 1) := by decide +kernel
theorem dL_law_2080 : decode cL_law 2080 = .ok (.iload 4, 2) := by decide +kernel
theorem dL_law_2082 : decode cL_law 2082 = .ok (.iconst 5, 1) := by decide +kernel
theorem dL_law_2083 : decode cL_law 2083 = .ok (.iadd, 1) := by decide +kernel
theorem dL_law_2084 : decode cL_law 2084 = .ok (.iaload, 1) := by decide +kernel
theorem dL_law_2085 : decode cL_law 2085 = .ok (.invokevirtual 218, 3) := by decide +kernel
theorem dL_law_2088 : decode cL_law 2088 = .ok (.istore 6, 2) := by decide +kernel
theorem dL_law_2090 : decode cL_law 2090 = .ok (.aload_n 2, 1) := by decide +kernel
theorem dL_law_2091 : decode cL_law 2091 = .ok (.invokevirtual 113, 3) := by decide +kernel
theorem dL_law_2094 : decode cL_law 2094 = .ok (.iload 5, 2) := by decide +kernel
theorem dL_law_2096 : decode cL_law 2096 = .ok (.if_icmp .eq 5, 3) := by decide +kernel
theorem dL_law_2101 : decode cL_law 2101 = .ok (.iload 5, 2) := by decide +kernel
theorem dL_law_2103 : decode cL_law 2103 = .ok (.ifCond .ne 15, 3) := by decide +kernel
theorem dL_law_2118 : decode cL_law 2118 = .ok (.goto 202, 3) := by decide +kernel
theorem dL_law_2121 : decode cL_law 2121 = .ok (.aload_n 1, 1) := by decide +kernel
theorem dL_law_2122 : decode cL_law 2122 = .ok (.aload_n 0, 1) := by decide +kernel
theorem dL_law_2123 : decode cL_law 2123 = .ok (.iload 4, 2) := by decide +kernel
theorem dL_law_2125 : decode cL_law 2125 = .ok (.iconst 1, 1) := by decide +kernel
theorem dL_law_2126 : decode cL_law 2126 = .ok (.iadd, 1) := by decide +kernel
theorem dL_law_2127 : decode cL_law 2127 = .ok (.iaload, 1) := by decide +kernel
theorem dL_law_2128 : decode cL_law 2128 = .ok (.aload_n 0, 1) := by decide +kernel
theorem dL_law_2129 : decode cL_law 2129 = .ok (.iload 4, 2) := by decide +kernel
theorem dL_law_2131 : decode cL_law 2131 = .ok (.iconst 2, 1) := by decide +kernel
theorem dL_law_2132 : decode cL_law 2132 = .ok (.iadd, 1) := by decide +kernel
theorem dL_law_2133 : decode cL_law 2133 = .ok (.iaload, 1) := by decide +kernel
theorem dL_law_2134 : decode cL_law 2134 = .ok (.aload_n 0, 1) := by decide +kernel
theorem dL_law_2135 : decode cL_law 2135 = .ok (.iload 4, 2) := by decide +kernel
theorem dL_law_2137 : decode cL_law 2137 = .ok (.iconst 3, 1) := by decide +kernel
theorem dL_law_2138 : decode cL_law 2138 = .ok (.iadd, 1) := by decide +kernel
theorem dL_law_2139 : decode cL_law 2139 = .ok (.iaload, 1) := by decide +kernel
theorem dL_law_2140 : decode cL_law 2140 = .ok (.aload_n 0, 1) := by decide +kernel
theorem dL_law_2141 : decode cL_law 2141 = .ok (.iload 4, 2) := by decide +kernel
theorem dL_law_2143 : decode cL_law 2143 = .ok (.iconst 4, 1) := by decide +kernel
theorem dL_law_2144 : decode cL_law 2144 = .ok (.iadd, 1) := by decide +kernel
theorem dL_law_2145 : decode cL_law 2145 = .ok (.iaload, 1) := by decide +kernel
theorem dL_law_2146 : decode cL_law 2146 = .ok (.aload_n 3, 1) := by decide +kernel
theorem dL_law_2147 : decode cL_law 2147 = .ok (.invokestatic 219, 3) := by decide +kernel
theorem dL_law_2150 : decode cL_law 2150 = .ok (.istore 5, 2) := by decide +kernel
theorem dL_law_2152 : decode cL_law 2152 = .ok (.aload_n 2, 1) := by decide +kernel
theorem dL_law_2153 : decode cL_law 2153 = .ok (.aload_n 0, 1) := by decide +kernel
theorem dL_law_2154 : decode cL_law 2154 = .ok (.iload 4, 2) := by decide +kernel
theorem dL_law_2156 : decode cL_law 2156 = .ok (.iconst 1, 1) := by decide +kernel
theorem dL_law_2157 : decode cL_law 2157 = .ok (.iadd, 1) := by decide +kernel
theorem dL_law_2158 : decode cL_law 2158 = .ok (.iaload, 1) := by decide +kernel
theorem dL_law_2159 : decode cL_law 2159 = .ok (.aload_n 0, 1) := by decide +kernel
theorem dL_law_2160 : decode cL_law 2160 = .ok (.iload 4, 2) := by decide +kernel
theorem dL_law_2162 : decode cL_law 2162 = .ok (.iconst 2, 1) := by decide +kernel
theorem dL_law_2163 : decode cL_law 2163 = .ok (.iadd, 1) := by decide +kernel
theorem dL_law_2164 : decode cL_law 2164 = .ok (.iaload, 1) := by decide +kernel
theorem dL_law_2165 : decode cL_law 2165 = .ok (.aload_n 0, 1) := by decide +kernel
theorem dL_law_2166 : decode cL_law 2166 = .ok (.iload 4, 2) := by decide +kernel
theorem dL_law_2168 : decode cL_law 2168 = .ok (.iconst 3, 1) := by decide +kernel
theorem dL_law_2169 : decode cL_law 2169 = .ok (.iadd, 1) := by decide +kernel
theorem dL_law_2170 : decode cL_law 2170 = .ok (.iaload, 1) := by decide +kernel
theorem dL_law_2171 : decode cL_law 2171 = .ok (.aload_n 0, 1) := by decide +kernel
theorem dL_law_2172 : decode cL_law 2172 = .ok (.iload 4, 2) := by decide +kernel
theorem dL_law_2174 : decode cL_law 2174 = .ok (.iconst 4, 1) := by decide +kernel
theorem dL_law_2175 : decode cL_law 2175 = .ok (.iadd, 1) := by decide +kernel
theorem dL_law_2176 : decode cL_law 2176 = .ok (.iaload, 1) := by decide +kernel
theorem dL_law_2177 : decode cL_law 2177 = .ok (.invokevirtual 221, 3) := by decide +kernel
theorem dL_law_2180 : decode cL_law 2180 = .ok (.istore 6, 2) := by decide +kernel
theorem dL_law_2182 : decode cL_law 2182 = .ok (.aload_n 2, 1) := by decide +kernel
theorem dL_law_2183 : decode cL_law 2183 = .ok (.invokevirtual 113, 3) := by decide +kernel
theorem dL_law_2186 : decode cL_law 2186 = .ok (.iload 5, 2) := by decide +kernel
theorem dL_law_2188 : decode cL_law 2188 = .ok (.if_icmp .eq 5, 3) := by decide +kernel
theorem dL_law_2193 : decode cL_law 2193 = .ok (.iload 5, 2) := by decide +kernel
theorem dL_law_2195 : decode cL_law 2195 = .ok (.ifCond .ne 15, 3) := by decide +kernel
theorem dL_law_2198 : decode cL_law 2198 = .ok (.aload_n 3, 1) := by decide +kernel
theorem dL_law_2199 : decode cL_law 2199 = .ok (.iconst 0, 1) := by decide +kernel
theorem dL_law_2200 : decode cL_law 2200 = .ok (.laload, 1) := by decide +kernel
theorem dL_law_2201 : decode cL_law 2201 = .ok (.iload 6, 2) := by decide +kernel
theorem dL_law_2203 : decode cL_law 2203 = .ok (.i2l, 1) := by decide +kernel
theorem dL_law_2204 : decode cL_law 2204 = .ok (.lcmp, 1) := by decide +kernel
theorem dL_law_2205 : decode cL_law 2205 = .ok (.ifCond .eq 5, 3) := by decide +kernel
theorem dL_law_2210 : decode cL_law 2210 = .ok (.goto 110, 3) := by decide +kernel
theorem dL_law_2213 : decode cL_law 2213 = .ok (.aload_n 1, 1) := by decide +kernel
theorem dL_law_2214 : decode cL_law 2214 = .ok (.aload_n 0, 1) := by decide +kernel
theorem dL_law_2215 : decode cL_law 2215 = .ok (.iload 4, 2) := by decide +kernel
theorem dL_law_2217 : decode cL_law 2217 = .ok (.iconst 1, 1) := by decide +kernel
theorem dL_law_2218 : decode cL_law 2218 = .ok (.iadd, 1) := by decide +kernel
theorem dL_law_2219 : decode cL_law 2219 = .ok (.iaload, 1) := by decide +kernel
theorem dL_law_2220 : decode cL_law 2220 = .ok (.aload_n 3, 1) := by decide +kernel
theorem dL_law_2221 : decode cL_law 2221 = .ok (.invokestatic 222, 3) := by decide +kernel
theorem dL_law_2224 : decode cL_law 2224 = .ok (.istore 5, 2) := by decide +kernel
theorem dL_law_2226 : decode cL_law 2226 = .ok (.aload_n 2, 1) := by decide +kernel
theorem dL_law_2227 : decode cL_law 2227 = .ok (.aload_n 0, 1) := by decide +kernel
theorem dL_law_2228 : decode cL_law 2228 = .ok (.iload 4, 2) := by decide +kernel
theorem dL_law_2230 : decode cL_law 2230 = .ok (.iconst 1, 1) := by decide +kernel
theorem dL_law_2231 : decode cL_law 2231 = .ok (.iadd, 1) := by decide +kernel
theorem dL_law_2232 : decode cL_law 2232 = .ok (.iaload, 1) := by decide +kernel
theorem dL_law_2233 : decode cL_law 2233 = .ok (.invokevirtual 224, 3) := by decide +kernel
theorem dL_law_2236 : decode cL_law 2236 = .ok (.istore 6, 2) := by decide +kernel
theorem dL_law_2238 : decode cL_law 2238 = .ok (.aload_n 2, 1) := by decide +kernel
theorem dL_law_2239 : decode cL_law 2239 = .ok (.invokevirtual 113, 3) := by decide +kernel
theorem dL_law_2242 : decode cL_law 2242 = .ok (.iload 5, 2) := by decide +kernel
theorem dL_law_2244 : decode cL_law 2244 = .ok (.if_icmp .eq 5, 3) := by decide +kernel
theorem dL_law_2249 : decode cL_law 2249 = .ok (.iload 5, 2) := by decide +kernel
theorem dL_law_2251 : decode cL_law 2251 = .ok (.ifCond .ne 15, 3) := by decide +kernel
theorem dL_law_2254 : decode cL_law 2254 = .ok (.aload_n 3, 1) := by decide +kernel
theorem dL_law_2255 : decode cL_law 2255 = .ok (.iconst 0, 1) := by decide +kernel
theorem dL_law_2256 : decode cL_law 2256 = .ok (.laload, 1) := by decide +kernel
theorem dL_law_2257 : decode cL_law 2257 = .ok (.iload 6, 2) := by decide +kernel
theorem dL_law_2259 : decode cL_law 2259 = .ok (.i2l, 1) := by decide +kernel
theorem dL_law_2260 : decode cL_law 2260 = .ok (.lcmp, 1) := by decide +kernel
theorem dL_law_2261 : decode cL_law 2261 = .ok (.ifCond .eq 5, 3) := by decide +kernel
theorem dL_law_2266 : decode cL_law 2266 = .ok (.goto 54, 3) := by decide +kernel
theorem dL_law_2269 : decode cL_law 2269 = .ok (.aload_n 1, 1) := by decide +kernel
theorem dL_law_2270 : decode cL_law 2270 = .ok (.invokevirtual 225, 3) := by decide +kernel
theorem dL_law_2273 : decode cL_law 2273 = .ok (.aload_n 2, 1) := by decide +kernel
theorem dL_law_2274 : decode cL_law 2274 = .ok (.invokevirtual 228, 3) := by decide +kernel
theorem dL_law_2277 : decode cL_law 2277 = .ok (.if_icmp .eq 43, 3) := by decide +kernel
theorem dL_law_2282 : decode cL_law 2282 = .ok (.aload_n 1, 1) := by decide +kernel
theorem dL_law_2283 : decode cL_law 2283 = .ok (.invokevirtual 229, 3) := by decide +kernel
theorem dL_law_2286 : decode cL_law 2286 = .ok (.aload_n 2, 1) := by decide +kernel
theorem dL_law_2287 : decode cL_law 2287 = .ok (.invokevirtual 232, 3) := by decide +kernel
theorem dL_law_2290 : decode cL_law 2290 = .ok (.if_icmp .eq 30, 3) := by decide +kernel
theorem dL_law_2295 : decode cL_law 2295 = .ok (.aload_n 1, 1) := by decide +kernel
theorem dL_law_2296 : decode cL_law 2296 = .ok (.aload_n 0, 1) := by decide +kernel
theorem dL_law_2297 : decode cL_law 2297 = .ok (.iload 4, 2) := by decide +kernel
theorem dL_law_2299 : decode cL_law 2299 = .ok (.iconst 1, 1) := by decide +kernel
theorem dL_law_2300 : decode cL_law 2300 = .ok (.iadd, 1) := by decide +kernel
theorem dL_law_2301 : decode cL_law 2301 = .ok (.iaload, 1) := by decide +kernel
theorem dL_law_2302 : decode cL_law 2302 = .ok (.invokevirtual 233, 3) := by decide +kernel
theorem dL_law_2305 : decode cL_law 2305 = .ok (.aload_n 2, 1) := by decide +kernel
theorem dL_law_2306 : decode cL_law 2306 = .ok (.aload_n 0, 1) := by decide +kernel
theorem dL_law_2307 : decode cL_law 2307 = .ok (.iload 4, 2) := by decide +kernel
theorem dL_law_2309 : decode cL_law 2309 = .ok (.iconst 1, 1) := by decide +kernel
theorem dL_law_2310 : decode cL_law 2310 = .ok (.iadd, 1) := by decide +kernel
theorem dL_law_2311 : decode cL_law 2311 = .ok (.iaload, 1) := by decide +kernel
theorem dL_law_2312 : decode cL_law 2312 = .ok (.invokevirtual 236, 3) := by decide +kernel
theorem dL_law_2315 : decode cL_law 2315 = .ok (.if_icmp .eq 5, 3) := by decide +kernel
set_option maxHeartbeats 8000000 in
set_option maxRecDepth 100000 in
theorem arm_30 {p : Program} {l : Launch} {e : Env} {s : State} {m : MethodId} {below : List Frame} {meth : Method} {c : Code} {b : Nat} {xs : Nat → Int32} {D : va_G} {K : Nat → ClassId} {sa : Nat × Nat × Nat} {H : Heap} {locs : List Loc} {L : List Nat} {f : Nat → va_E} {Ψ : Nat → Nat} {x m_ o : Nat} {ls : Array Slot} (hls : l.stackTraces = false) (A : LwC p s m meth c b xs) (B : LwW D K sa s H locs L f Ψ x m_ o) (hl : lv_has ls 7 [(0, .ref b), (1, .ref x), (2, .ref m_), (3, .ref o), (4, .int 0)]) : W p l e room_1 s m #[Value.ref b] below meth c H locs 1258 28357 (lw_Z below #[Value.ref b] s) (F0 m 2017 ls []) := by
  obtain ⟨C, hX, hbl, hrt, hlk⟩ := id A
  obtain ⟨w, hT, ⟨hm_x, ht_x⟩, ⟨hm_m, ht_m⟩, ⟨hm_o, ht_o, g0, hf_o⟩, hno_6, hno_7, z4, hno_4⟩ := B
  have hx := C.1
  have hb := C.2.1
  have n0 : (0 : Int32).toInt = 0 := by decide
  have n1 : (1 : Int32).toInt = 1 := by decide
  refine lv_aload_n hx hb dL_law_2017 rfl (lv_at hl 1 rfl) ?_
  refine lv_aload_n hx hb dL_law_2018 rfl (lv_at hl 0 rfl) ?_
  refine lv_iload hx hb dL_law_2019 (lv_at hl 4 rfl) ?_
  refine lv_iconst (v := 1) hx hb dL_law_2021 (by decide) ?_
  refine lv_iadd hx hb dL_law_2022 ?_
  refine lv_topi (fun y1 ey1 => ?_)
  obtain rfl : y1 = 1 := ey1.trans (by decide)
  refine t_sld hx hb hX hbl w (j := 1) (by decide) (vp_in_iff.mpr ⟨by decide, by decide⟩) dL_law_2023 ?_
  refine lv_aload_n hx hb dL_law_2024 rfl (lv_at hl 0 rfl) ?_
  refine lv_iload hx hb dL_law_2025 (lv_at hl 4 rfl) ?_
  refine lv_iconst (v := 2) hx hb dL_law_2027 (by decide) ?_
  refine lv_iadd hx hb dL_law_2028 ?_
  refine lv_topi (fun y2 ey2 => ?_)
  obtain rfl : y2 = 2 := ey2.trans (by decide)
  refine t_sld hx hb hX hbl w (j := 2) (by decide) (vp_in_iff.mpr ⟨by decide, by decide⟩) dL_law_2029 ?_
  refine lv_aload_n hx hb dL_law_2030 rfl (lv_at hl 0 rfl) ?_
  refine lv_iload hx hb dL_law_2031 (lv_at hl 4 rfl) ?_
  refine lv_iconst (v := 3) hx hb dL_law_2033 (by decide) ?_
  refine lv_iadd hx hb dL_law_2034 ?_
  refine lv_topi (fun y3 ey3 => ?_)
  obtain rfl : y3 = 3 := ey3.trans (by decide)
  refine t_sld hx hb hX hbl w (j := 3) (by decide) (vp_in_iff.mpr ⟨by decide, by decide⟩) dL_law_2035 ?_
  refine lv_aload_n hx hb dL_law_2036 rfl (lv_at hl 0 rfl) ?_
  refine lv_iload hx hb dL_law_2037 (lv_at hl 4 rfl) ?_
  refine lv_iconst (v := 4) hx hb dL_law_2039 (by decide) ?_
  refine lv_iadd hx hb dL_law_2040 ?_
  refine lv_topi (fun y4 ey4 => ?_)
  obtain rfl : y4 = 4 := ey4.trans (by decide)
  refine t_sld hx hb hX hbl w (j := 4) (by decide) (vp_in_iff.mpr ⟨by decide, by decide⟩) dL_law_2041 ?_
  refine lv_aload_n hx hb dL_law_2042 rfl (lv_at hl 0 rfl) ?_
  refine lv_iload hx hb dL_law_2043 (lv_at hl 4 rfl) ?_
  refine lv_iconst (v := 5) hx hb dL_law_2045 (by decide) ?_
  refine lv_iadd hx hb dL_law_2046 ?_
  refine lv_topi (fun y5 ey5 => ?_)
  obtain rfl : y5 = 5 := ey5.trans (by decide)
  refine t_sld hx hb hX hbl w (j := 5) (by decide) (vp_in_iff.mpr ⟨by decide, by decide⟩) dL_law_2047 ?_
  refine lv_aload_n hx hb dL_law_2048 rfl (lv_at hl 3 rfl) ?_
  refine t_callH (n := 7) C w (c_L_cut l hls D K _ sa _ L _ Ψ (hT.mono (gof_sub rfl)) x hm_x ht_x (xs 1) (xs 2) (xs 3) (xs 4) (xs 5)  o hm_o ht_o g0 hf_o) gw_1119 gw_1117 gw_1118 gw_0 ⟨by decide, by decide, by decide +kernel⟩ rfl rfl ⟨Nat.le_of_ble_eq_true rfl, Nat.le_of_ble_eq_true rfl⟩ rfl hl.1 rfl (Nat.le_of_ble_eq_true rfl) dL_law_2049 ⟨Nat.le_of_ble_eq_true rfl, Nat.le_of_ble_eq_true rfl⟩ (fun v u H locs hp w => ?_)
  obtain ⟨r1, Ψ2, L2, f2, g, rfl, rfl, hT2, hE2, ht_o2, hf_o2, hal⟩ := hp
  have hnm : ¬ (fun q9 => q9 = o) m_ := fun e9 => by have e9 : m_ = o := e9; rw [e9, ht_o] at ht_m; exact absurd ht_m (by decide)
  have hsp := hE2.sp hm_m hnm
  have ht_m := hsp.2.1.trans ht_m
  have hm_m := hsp.1
  have hm_o := (hE2.1 o hm_o).1
  have hno_7 := hno_7.call hE2 (by decide) (fun b e9 h9 => by have e9 : b = o := e9; rw [e9, ht_o2] at h9; exact absurd h9 (by decide))
  clear hT hno_6 hno_4 hm_x ht_x hf_o ht_o hnm hsp
  have hT := hT2
  have ht_o := ht_o2
  have hf_o := hf_o2
  clear hT2 ht_o2 hf_o2
  refine lv_istore (lv' := [(5, .int r1), (0, .ref b), (1, .ref x), (2, .ref m_), (3, .ref o), (4, .int 0)]) hx hb dL_law_2052 hl (by decide) rfl (fun ls hl => ?_)
  refine lv_aload_n hx hb dL_law_2054 rfl (lv_at hl 3 rfl) ?_
  refine lv_aload_n hx hb dL_law_2055 rfl (lv_at hl 1 rfl) ?_
  refine lv_iload hx hb dL_law_2056 (lv_at hl 5 rfl) ?_
  refine lv_iconst (v := 1) hx hb dL_law_2058 (by decide) ?_
  refine lv_iadd hx hb dL_law_2059 ?_
  refine lv_topi (fun y6 ey6 => ?_)
  obtain rfl : y6 = 1 := ey6.trans (by decide)
  refine t_sld hx hb hX hbl w (j := 1) (by decide) (vp_in_iff.mpr ⟨by decide, by decide⟩) dL_law_2060 ?_
  refine lv_aload_n hx hb dL_law_2061 rfl (lv_at hl 1 rfl) ?_
  refine lv_iload hx hb dL_law_2062 (lv_at hl 5 rfl) ?_
  refine lv_iconst (v := 2) hx hb dL_law_2064 (by decide) ?_
  refine lv_iadd hx hb dL_law_2065 ?_
  refine lv_topi (fun y7 ey7 => ?_)
  obtain rfl : y7 = 2 := ey7.trans (by decide)
  refine t_sld hx hb hX hbl w (j := 2) (by decide) (vp_in_iff.mpr ⟨by decide, by decide⟩) dL_law_2066 ?_
  refine lv_aload_n hx hb dL_law_2067 rfl (lv_at hl 1 rfl) ?_
  refine lv_iload hx hb dL_law_2068 (lv_at hl 5 rfl) ?_
  refine lv_iconst (v := 3) hx hb dL_law_2070 (by decide) ?_
  refine lv_iadd hx hb dL_law_2071 ?_
  refine lv_topi (fun y8 ey8 => ?_)
  obtain rfl : y8 = 3 := ey8.trans (by decide)
  refine t_sld hx hb hX hbl w (j := 3) (by decide) (vp_in_iff.mpr ⟨by decide, by decide⟩) dL_law_2072 ?_
  refine lv_aload_n hx hb dL_law_2073 rfl (lv_at hl 1 rfl) ?_
  refine lv_iload hx hb dL_law_2074 (lv_at hl 5 rfl) ?_
  refine lv_iconst (v := 4) hx hb dL_law_2076 (by decide) ?_
  refine lv_iadd hx hb dL_law_2077 ?_
  refine lv_topi (fun y9 ey9 => ?_)
  obtain rfl : y9 = 4 := ey9.trans (by decide)
  refine t_sld hx hb hX hbl w (j := 4) (by decide) (vp_in_iff.mpr ⟨by decide, by decide⟩) dL_law_2078 ?_
  refine lv_aload_n hx hb dL_law_2079 rfl (lv_at hl 1 rfl) ?_
  refine lv_iload hx hb dL_law_2080 (lv_at hl 5 rfl) ?_
  refine lv_iconst (v := 5) hx hb dL_law_2082 (by decide) ?_
  refine lv_iadd hx hb dL_law_2083 ?_
  refine lv_topi (fun y10 ey10 => ?_)
  obtain rfl : y10 = 5 := ey10.trans (by decide)
  refine t_sld hx hb hX hbl w (j := 5) (by decide) (vp_in_iff.mpr ⟨by decide, by decide⟩) dL_law_2084 ?_
  refine t_callV (n := 5) C w hT hm_m ht_m (by decide) rfl rfl (c_X7_cut l D K _ sa _ L2 _ Ψ2 hT m_ hm_m ht_m (xs 1) (xs 2) (xs 3) (xs 4) (xs 5) (fun b c h1 h2 h3 h4 => (hno_7 b h1 h3).trans (hno_7 c h2 h4).symm)) gw_1666 gw_1663 gw_1664 gw_1665 gw_8 ⟨by decide, by decide, by decide +kernel⟩ rfl rfl ⟨Nat.le_of_ble_eq_true rfl, Nat.le_of_ble_eq_true rfl⟩ rfl hl.1 rfl (Nat.le_of_ble_eq_true rfl) dL_law_2085 ⟨Nat.le_of_ble_eq_true rfl, Nat.le_of_ble_eq_true rfl⟩ (fun v u H locs hp w => ?_)
  obtain ⟨r2, th, f3, rfl, rfl, hT3, hR3, hbl2⟩ := hp
  have hf_o := (hR3 o hm_o ht_o).trans hf_o
  clear hT
  have hT := hT3
  clear hT3
  rcases hal with rfl
  obtain ⟨rfl, rfl⟩ := hbl2
  refine lv_istore (lv' := [(6, .int 0), (5, .int 1), (0, .ref b), (1, .ref x), (2, .ref m_), (3, .ref o), (4, .int 0)]) hx hb dL_law_2088 hl (by decide) rfl (fun ls hl => ?_)
  refine lv_aload_n hx hb dL_law_2090 rfl (lv_at hl 4 rfl) ?_
  refine t_callV (n := 0) C w hT hm_m ht_m (by decide) rfl rfl (c_X7_thrown l D K _ sa _ L2 _ Ψ2 1 hT m_ hm_m ht_m) gw_1332 gw_1329 gw_1330 gw_1331 gw_8 ⟨by decide, by decide, by decide +kernel⟩ rfl rfl ⟨Nat.le_of_ble_eq_true rfl, Nat.le_of_ble_eq_true rfl⟩ rfl hl.1 rfl (Nat.le_of_ble_eq_true rfl) dL_law_2091 ⟨Nat.le_of_ble_eq_true rfl, Nat.le_of_ble_eq_true rfl⟩ (fun v u H locs hp w => ?_)
  obtain ⟨rfl, rfl⟩ := hp
  refine lv_iload hx hb dL_law_2094 (lv_at hl 1 rfl) ?_
  refine lv_icmp_eq (tgt := 2101) hx hb dL_law_2096 (by decide) (fun _ => ?_) (fun c0 => absurd c0 (by decide))
  refine lv_iload hx hb dL_law_2101 (lv_at hl 1 rfl) ?_
  refine lv_if_ne (tgt := 2118) hx hb dL_law_2103 (by decide) (fun _ => ?_) (fun c0 => absurd c0 (by decide))
  refine lv_goto (tgt := 2320) hx hb dL_law_2118 (by decide) ?_
  exact law_end A w (Nat.le_of_ble_eq_true rfl) (Nat.le_of_ble_eq_true rfl) (lv_sub hl [6, 2] rfl)
set_option maxHeartbeats 8000000 in
set_option maxRecDepth 100000 in
theorem arm_31 {p : Program} {l : Launch} {e : Env} {s : State} {m : MethodId} {below : List Frame} {meth : Method} {c : Code} {b : Nat} {xs : Nat → Int32} {D : va_G} {K : Nat → ClassId} {sa : Nat × Nat × Nat} {H : Heap} {locs : List Loc} {L : List Nat} {f : Nat → va_E} {Ψ : Nat → Nat} {x m_ o : Nat} {ls : Array Slot} (hls : l.stackTraces = false) (A : LwC p s m meth c b xs) (B : LwW D K sa s H locs L f Ψ x m_ o) (hl : lv_has ls 7 [(0, .ref b), (1, .ref x), (2, .ref m_), (3, .ref o), (4, .int 0)]) : W p l e room_1 s m #[Value.ref b] below meth c H locs 1258 28357 (lw_Z below #[Value.ref b] s) (F0 m 2121 ls []) := by
  obtain ⟨C, hX, hbl, hrt, hlk⟩ := id A
  obtain ⟨w, hT, ⟨hm_x, ht_x⟩, ⟨hm_m, ht_m⟩, ⟨hm_o, ht_o, g0, hf_o⟩, hno_6, hno_7, z4, hno_4⟩ := B
  have hx := C.1
  have hb := C.2.1
  have n0 : (0 : Int32).toInt = 0 := by decide
  have n1 : (1 : Int32).toInt = 1 := by decide
  refine lv_aload_n hx hb dL_law_2121 rfl (lv_at hl 1 rfl) ?_
  refine lv_aload_n hx hb dL_law_2122 rfl (lv_at hl 0 rfl) ?_
  refine lv_iload hx hb dL_law_2123 (lv_at hl 4 rfl) ?_
  refine lv_iconst (v := 1) hx hb dL_law_2125 (by decide) ?_
  refine lv_iadd hx hb dL_law_2126 ?_
  refine lv_topi (fun y1 ey1 => ?_)
  obtain rfl : y1 = 1 := ey1.trans (by decide)
  refine t_sld hx hb hX hbl w (j := 1) (by decide) (vp_in_iff.mpr ⟨by decide, by decide⟩) dL_law_2127 ?_
  refine lv_aload_n hx hb dL_law_2128 rfl (lv_at hl 0 rfl) ?_
  refine lv_iload hx hb dL_law_2129 (lv_at hl 4 rfl) ?_
  refine lv_iconst (v := 2) hx hb dL_law_2131 (by decide) ?_
  refine lv_iadd hx hb dL_law_2132 ?_
  refine lv_topi (fun y2 ey2 => ?_)
  obtain rfl : y2 = 2 := ey2.trans (by decide)
  refine t_sld hx hb hX hbl w (j := 2) (by decide) (vp_in_iff.mpr ⟨by decide, by decide⟩) dL_law_2133 ?_
  refine lv_aload_n hx hb dL_law_2134 rfl (lv_at hl 0 rfl) ?_
  refine lv_iload hx hb dL_law_2135 (lv_at hl 4 rfl) ?_
  refine lv_iconst (v := 3) hx hb dL_law_2137 (by decide) ?_
  refine lv_iadd hx hb dL_law_2138 ?_
  refine lv_topi (fun y3 ey3 => ?_)
  obtain rfl : y3 = 3 := ey3.trans (by decide)
  refine t_sld hx hb hX hbl w (j := 3) (by decide) (vp_in_iff.mpr ⟨by decide, by decide⟩) dL_law_2139 ?_
  refine lv_aload_n hx hb dL_law_2140 rfl (lv_at hl 0 rfl) ?_
  refine lv_iload hx hb dL_law_2141 (lv_at hl 4 rfl) ?_
  refine lv_iconst (v := 4) hx hb dL_law_2143 (by decide) ?_
  refine lv_iadd hx hb dL_law_2144 ?_
  refine lv_topi (fun y4 ey4 => ?_)
  obtain rfl : y4 = 4 := ey4.trans (by decide)
  refine t_sld hx hb hX hbl w (j := 4) (by decide) (vp_in_iff.mpr ⟨by decide, by decide⟩) dL_law_2145 ?_
  refine lv_aload_n hx hb dL_law_2146 rfl (lv_at hl 3 rfl) ?_
  refine t_callH (n := 6) C w (c_L_player l hls D K _ sa _ L _ Ψ (hT.mono (gof_sub rfl)) x hm_x ht_x (xs 1) (xs 2) (xs 3) (xs 4)  o hm_o ht_o g0 hf_o) gw_1129 gw_1127 gw_1128 gw_0 ⟨by decide, by decide, by decide +kernel⟩ rfl rfl ⟨Nat.le_of_ble_eq_true rfl, Nat.le_of_ble_eq_true rfl⟩ rfl hl.1 rfl (Nat.le_of_ble_eq_true rfl) dL_law_2147 ⟨Nat.le_of_ble_eq_true rfl, Nat.le_of_ble_eq_true rfl⟩ (fun v u H locs hp w => ?_)
  obtain ⟨r1, Ψ2, L2, f2, g, rfl, rfl, hT2, hE2, ht_o2, hf_o2, hal⟩ := hp
  have hnm : ¬ (fun q9 => q9 = o) m_ := fun e9 => by have e9 : m_ = o := e9; rw [e9, ht_o] at ht_m; exact absurd ht_m (by decide)
  have hsp := hE2.sp hm_m hnm
  have ht_m := hsp.2.1.trans ht_m
  have hm_m := hsp.1
  have hm_o := (hE2.1 o hm_o).1
  have hno_7 := hno_7.call hE2 (by decide) (fun b e9 h9 => by have e9 : b = o := e9; rw [e9, ht_o2] at h9; exact absurd h9 (by decide))
  clear hT hno_6 hno_4 hm_x ht_x hf_o ht_o hnm hsp
  have hT := hT2
  have ht_o := ht_o2
  have hf_o := hf_o2
  clear hT2 ht_o2 hf_o2
  refine lv_istore (lv' := [(5, .int r1), (0, .ref b), (1, .ref x), (2, .ref m_), (3, .ref o), (4, .int 0)]) hx hb dL_law_2150 hl (by decide) rfl (fun ls hl => ?_)
  refine lv_aload_n hx hb dL_law_2152 rfl (lv_at hl 3 rfl) ?_
  refine lv_aload_n hx hb dL_law_2153 rfl (lv_at hl 1 rfl) ?_
  refine lv_iload hx hb dL_law_2154 (lv_at hl 5 rfl) ?_
  refine lv_iconst (v := 1) hx hb dL_law_2156 (by decide) ?_
  refine lv_iadd hx hb dL_law_2157 ?_
  refine lv_topi (fun y5 ey5 => ?_)
  obtain rfl : y5 = 1 := ey5.trans (by decide)
  refine t_sld hx hb hX hbl w (j := 1) (by decide) (vp_in_iff.mpr ⟨by decide, by decide⟩) dL_law_2158 ?_
  refine lv_aload_n hx hb dL_law_2159 rfl (lv_at hl 1 rfl) ?_
  refine lv_iload hx hb dL_law_2160 (lv_at hl 5 rfl) ?_
  refine lv_iconst (v := 2) hx hb dL_law_2162 (by decide) ?_
  refine lv_iadd hx hb dL_law_2163 ?_
  refine lv_topi (fun y6 ey6 => ?_)
  obtain rfl : y6 = 2 := ey6.trans (by decide)
  refine t_sld hx hb hX hbl w (j := 2) (by decide) (vp_in_iff.mpr ⟨by decide, by decide⟩) dL_law_2164 ?_
  refine lv_aload_n hx hb dL_law_2165 rfl (lv_at hl 1 rfl) ?_
  refine lv_iload hx hb dL_law_2166 (lv_at hl 5 rfl) ?_
  refine lv_iconst (v := 3) hx hb dL_law_2168 (by decide) ?_
  refine lv_iadd hx hb dL_law_2169 ?_
  refine lv_topi (fun y7 ey7 => ?_)
  obtain rfl : y7 = 3 := ey7.trans (by decide)
  refine t_sld hx hb hX hbl w (j := 3) (by decide) (vp_in_iff.mpr ⟨by decide, by decide⟩) dL_law_2170 ?_
  refine lv_aload_n hx hb dL_law_2171 rfl (lv_at hl 1 rfl) ?_
  refine lv_iload hx hb dL_law_2172 (lv_at hl 5 rfl) ?_
  refine lv_iconst (v := 4) hx hb dL_law_2174 (by decide) ?_
  refine lv_iadd hx hb dL_law_2175 ?_
  refine lv_topi (fun y8 ey8 => ?_)
  obtain rfl : y8 = 4 := ey8.trans (by decide)
  refine t_sld hx hb hX hbl w (j := 4) (by decide) (vp_in_iff.mpr ⟨by decide, by decide⟩) dL_law_2176 ?_
  refine t_callV (n := 4) C w hT hm_m ht_m (by decide) rfl rfl (c_X7_player l D K _ sa _ L2 _ Ψ2 hT m_ hm_m ht_m (xs 1) (xs 2) (xs 3) (xs 4) (fun b c h1 h2 h3 h4 => (hno_7 b h1 h3).trans (hno_7 c h2 h4).symm)) gw_1670 gw_1667 gw_1668 gw_1669 gw_8 ⟨by decide, by decide, by decide +kernel⟩ rfl rfl ⟨Nat.le_of_ble_eq_true rfl, Nat.le_of_ble_eq_true rfl⟩ rfl hl.1 rfl (Nat.le_of_ble_eq_true rfl) dL_law_2177 ⟨Nat.le_of_ble_eq_true rfl, Nat.le_of_ble_eq_true rfl⟩ (fun v u H locs hp w => ?_)
  obtain ⟨r2, th, f3, rfl, rfl, hT3, hR3, hbl2⟩ := hp
  have hf_o := (hR3 o hm_o ht_o).trans hf_o
  clear hT
  have hT := hT3
  clear hT3
  rcases hal with ⟨rfl, v1, hg, ⟨ha0, ha1, ha2, ha3, ha4⟩⟩ | ⟨rfl, ha0⟩ | ⟨rfl, ha0, ha1, ha2⟩
  ·
    rcases hbl2 with ⟨rfl, rfl, hb0⟩ | ⟨rfl, rfl, hb0, hb1, hb2⟩ | ⟨rfl, hb0, hb1, hb2, hb3, hb4⟩
    ·
      exfalso
      omega
    ·
      exfalso
      omega
    ·
      refine lv_istore (lv' := [(6, .int r2), (5, .int 0), (0, .ref b), (1, .ref x), (2, .ref m_), (3, .ref o), (4, .int 0)]) hx hb dL_law_2180 hl (by decide) rfl (fun ls hl => ?_)
      refine lv_aload_n hx hb dL_law_2182 rfl (lv_at hl 4 rfl) ?_
      refine t_callV (n := 0) C w hT hm_m ht_m (by decide) rfl rfl (c_X7_thrown l D K _ sa _ L2 _ Ψ2 0 hT m_ hm_m ht_m) gw_1332 gw_1329 gw_1330 gw_1331 gw_8 ⟨by decide, by decide, by decide +kernel⟩ rfl rfl ⟨Nat.le_of_ble_eq_true rfl, Nat.le_of_ble_eq_true rfl⟩ rfl hl.1 rfl (Nat.le_of_ble_eq_true rfl) dL_law_2183 ⟨Nat.le_of_ble_eq_true rfl, Nat.le_of_ble_eq_true rfl⟩ (fun v u H locs hp w => ?_)
      obtain ⟨rfl, rfl⟩ := hp
      refine lv_iload hx hb dL_law_2186 (lv_at hl 1 rfl) ?_
      refine lv_icmp_eq (tgt := 2193) hx hb dL_law_2188 (by decide) (fun _ => ?_) (fun c0 => absurd c0 (by decide))
      refine lv_iload hx hb dL_law_2193 (lv_at hl 1 rfl) ?_
      refine lv_if_ne (tgt := 2210) hx hb dL_law_2195 (by decide) (fun c0 => absurd c0 (by decide)) (fun _ => ?_)
      refine lv_aload_n hx hb dL_law_2198 rfl (lv_at hl 5 rfl) ?_
      refine lv_iconst (v := 0) hx hb dL_law_2199 (by decide) ?_
      refine t_laldR C w hm_o hf_o hg dL_law_2200 ?_
      refine lv_iload hx hb dL_law_2201 (lv_at hl 0 rfl) ?_
      refine lv_i2l (v := r2.toInt64) hx hb dL_law_2203 rfl ?_
      obtain rfl : v1 = r2 := of_toInt (by omega)
      refine W.lcmp hx hb dL_law_2204 ?_
      refine lv_topi (fun y9 ey9 => ?_)
      obtain rfl : y9 = 0 := ey9.trans (lg_cmp_self _)
      refine lv_if_eq (tgt := 2210) hx hb dL_law_2205 (by decide) (fun _ => ?_) (fun c0 => absurd c0 (by decide))
      refine lv_goto (tgt := 2320) hx hb dL_law_2210 (by decide) ?_
      exact law_end A w (Nat.le_of_ble_eq_true rfl) (Nat.le_of_ble_eq_true rfl) (lv_sub hl [6, 2] rfl)
  ·
    rcases hbl2 with ⟨rfl, rfl, hb0⟩ | ⟨rfl, rfl, hb0, hb1, hb2⟩ | ⟨rfl, hb0, hb1, hb2, hb3, hb4⟩
    ·
      refine lv_istore (lv' := [(6, .int 0), (5, .int 1), (0, .ref b), (1, .ref x), (2, .ref m_), (3, .ref o), (4, .int 0)]) hx hb dL_law_2180 hl (by decide) rfl (fun ls hl => ?_)
      refine lv_aload_n hx hb dL_law_2182 rfl (lv_at hl 4 rfl) ?_
      refine t_callV (n := 0) C w hT hm_m ht_m (by decide) rfl rfl (c_X7_thrown l D K _ sa _ L2 _ Ψ2 1 hT m_ hm_m ht_m) gw_1332 gw_1329 gw_1330 gw_1331 gw_8 ⟨by decide, by decide, by decide +kernel⟩ rfl rfl ⟨Nat.le_of_ble_eq_true rfl, Nat.le_of_ble_eq_true rfl⟩ rfl hl.1 rfl (Nat.le_of_ble_eq_true rfl) dL_law_2183 ⟨Nat.le_of_ble_eq_true rfl, Nat.le_of_ble_eq_true rfl⟩ (fun v u H locs hp w => ?_)
      obtain ⟨rfl, rfl⟩ := hp
      refine lv_iload hx hb dL_law_2186 (lv_at hl 1 rfl) ?_
      refine lv_icmp_eq (tgt := 2193) hx hb dL_law_2188 (by decide) (fun _ => ?_) (fun c0 => absurd c0 (by decide))
      refine lv_iload hx hb dL_law_2193 (lv_at hl 1 rfl) ?_
      refine lv_if_ne (tgt := 2210) hx hb dL_law_2195 (by decide) (fun _ => ?_) (fun c0 => absurd c0 (by decide))
      refine lv_goto (tgt := 2320) hx hb dL_law_2210 (by decide) ?_
      exact law_end A w (Nat.le_of_ble_eq_true rfl) (Nat.le_of_ble_eq_true rfl) (lv_sub hl [6, 2] rfl)
    ·
      exfalso
      omega
    ·
      exfalso
      omega
  ·
    rcases hbl2 with ⟨rfl, rfl, hb0⟩ | ⟨rfl, rfl, hb0, hb1, hb2⟩ | ⟨rfl, hb0, hb1, hb2, hb3, hb4⟩
    ·
      exfalso
      omega
    ·
      refine lv_istore (lv' := [(6, .int 0), (5, .int 2), (0, .ref b), (1, .ref x), (2, .ref m_), (3, .ref o), (4, .int 0)]) hx hb dL_law_2180 hl (by decide) rfl (fun ls hl => ?_)
      refine lv_aload_n hx hb dL_law_2182 rfl (lv_at hl 4 rfl) ?_
      refine t_callV (n := 0) C w hT hm_m ht_m (by decide) rfl rfl (c_X7_thrown l D K _ sa _ L2 _ Ψ2 2 hT m_ hm_m ht_m) gw_1332 gw_1329 gw_1330 gw_1331 gw_8 ⟨by decide, by decide, by decide +kernel⟩ rfl rfl ⟨Nat.le_of_ble_eq_true rfl, Nat.le_of_ble_eq_true rfl⟩ rfl hl.1 rfl (Nat.le_of_ble_eq_true rfl) dL_law_2183 ⟨Nat.le_of_ble_eq_true rfl, Nat.le_of_ble_eq_true rfl⟩ (fun v u H locs hp w => ?_)
      obtain ⟨rfl, rfl⟩ := hp
      refine lv_iload hx hb dL_law_2186 (lv_at hl 1 rfl) ?_
      refine lv_icmp_eq (tgt := 2193) hx hb dL_law_2188 (by decide) (fun _ => ?_) (fun c0 => absurd c0 (by decide))
      refine lv_iload hx hb dL_law_2193 (lv_at hl 1 rfl) ?_
      refine lv_if_ne (tgt := 2210) hx hb dL_law_2195 (by decide) (fun _ => ?_) (fun c0 => absurd c0 (by decide))
      refine lv_goto (tgt := 2320) hx hb dL_law_2210 (by decide) ?_
      exact law_end A w (Nat.le_of_ble_eq_true rfl) (Nat.le_of_ble_eq_true rfl) (lv_sub hl [6, 2] rfl)
    ·
      exfalso
      omega
set_option maxHeartbeats 8000000 in
set_option maxRecDepth 100000 in
theorem arm_32 {p : Program} {l : Launch} {e : Env} {s : State} {m : MethodId} {below : List Frame} {meth : Method} {c : Code} {b : Nat} {xs : Nat → Int32} {D : va_G} {K : Nat → ClassId} {sa : Nat × Nat × Nat} {H : Heap} {locs : List Loc} {L : List Nat} {f : Nat → va_E} {Ψ : Nat → Nat} {x m_ o : Nat} {ls : Array Slot} (hls : l.stackTraces = false) (A : LwC p s m meth c b xs) (B : LwW D K sa s H locs L f Ψ x m_ o) (hl : lv_has ls 7 [(0, .ref b), (1, .ref x), (2, .ref m_), (3, .ref o), (4, .int 0)]) : W p l e room_1 s m #[Value.ref b] below meth c H locs 1258 28357 (lw_Z below #[Value.ref b] s) (F0 m 2213 ls []) := by
  obtain ⟨C, hX, hbl, hrt, hlk⟩ := id A
  obtain ⟨w, hT, ⟨hm_x, ht_x⟩, ⟨hm_m, ht_m⟩, ⟨hm_o, ht_o, g0, hf_o⟩, hno_6, hno_7, z4, hno_4⟩ := B
  have hx := C.1
  have hb := C.2.1
  have n0 : (0 : Int32).toInt = 0 := by decide
  have n1 : (1 : Int32).toInt = 1 := by decide
  refine lv_aload_n hx hb dL_law_2213 rfl (lv_at hl 1 rfl) ?_
  refine lv_aload_n hx hb dL_law_2214 rfl (lv_at hl 0 rfl) ?_
  refine lv_iload hx hb dL_law_2215 (lv_at hl 4 rfl) ?_
  refine lv_iconst (v := 1) hx hb dL_law_2217 (by decide) ?_
  refine lv_iadd hx hb dL_law_2218 ?_
  refine lv_topi (fun y1 ey1 => ?_)
  obtain rfl : y1 = 1 := ey1.trans (by decide)
  refine t_sld hx hb hX hbl w (j := 1) (by decide) (vp_in_iff.mpr ⟨by decide, by decide⟩) dL_law_2219 ?_
  refine lv_aload_n hx hb dL_law_2220 rfl (lv_at hl 3 rfl) ?_
  refine t_callH (n := 3) C w (c_L_fair l hls D K _ sa _ L _ Ψ (hT.mono (gof_sub rfl)) x hm_x ht_x (xs 1)  o hm_o ht_o g0 hf_o) gw_1139 gw_1137 gw_1138 gw_0 ⟨by decide, by decide, by decide +kernel⟩ rfl rfl ⟨Nat.le_of_ble_eq_true rfl, Nat.le_of_ble_eq_true rfl⟩ rfl hl.1 rfl (Nat.le_of_ble_eq_true rfl) dL_law_2221 ⟨Nat.le_of_ble_eq_true rfl, Nat.le_of_ble_eq_true rfl⟩ (fun v u H locs hp w => ?_)
  obtain ⟨r1, Ψ2, L2, f2, g, rfl, rfl, hT2, hE2, ht_o2, hf_o2, hal⟩ := hp
  have hnm : ¬ (fun q9 => q9 = o) m_ := fun e9 => by have e9 : m_ = o := e9; rw [e9, ht_o] at ht_m; exact absurd ht_m (by decide)
  have hsp := hE2.sp hm_m hnm
  have ht_m := hsp.2.1.trans ht_m
  have hm_m := hsp.1
  have hm_o := (hE2.1 o hm_o).1
  have hno_7 := hno_7.call hE2 (by decide) (fun b e9 h9 => by have e9 : b = o := e9; rw [e9, ht_o2] at h9; exact absurd h9 (by decide))
  clear hT hno_6 hno_4 hm_x ht_x hf_o ht_o hnm hsp
  have hT := hT2
  have ht_o := ht_o2
  have hf_o := hf_o2
  clear hT2 ht_o2 hf_o2
  refine lv_istore (lv' := [(5, .int r1), (0, .ref b), (1, .ref x), (2, .ref m_), (3, .ref o), (4, .int 0)]) hx hb dL_law_2224 hl (by decide) rfl (fun ls hl => ?_)
  refine lv_aload_n hx hb dL_law_2226 rfl (lv_at hl 3 rfl) ?_
  refine lv_aload_n hx hb dL_law_2227 rfl (lv_at hl 1 rfl) ?_
  refine lv_iload hx hb dL_law_2228 (lv_at hl 5 rfl) ?_
  refine lv_iconst (v := 1) hx hb dL_law_2230 (by decide) ?_
  refine lv_iadd hx hb dL_law_2231 ?_
  refine lv_topi (fun y2 ey2 => ?_)
  obtain rfl : y2 = 1 := ey2.trans (by decide)
  refine t_sld hx hb hX hbl w (j := 1) (by decide) (vp_in_iff.mpr ⟨by decide, by decide⟩) dL_law_2232 ?_
  refine t_callV (n := 1) C w hT hm_m ht_m (by decide) rfl rfl (c_X7_fair l D K _ sa _ L2 _ Ψ2 hT m_ hm_m ht_m (xs 1) (fun b c h1 h2 h3 h4 => (hno_7 b h1 h3).trans (hno_7 c h2 h4).symm)) gw_1674 gw_1671 gw_1672 gw_1673 gw_8 ⟨by decide, by decide, by decide +kernel⟩ rfl rfl ⟨Nat.le_of_ble_eq_true rfl, Nat.le_of_ble_eq_true rfl⟩ rfl hl.1 rfl (Nat.le_of_ble_eq_true rfl) dL_law_2233 ⟨Nat.le_of_ble_eq_true rfl, Nat.le_of_ble_eq_true rfl⟩ (fun v u H locs hp w => ?_)
  obtain ⟨r2, th, f3, rfl, rfl, hT3, hR3, hbl2⟩ := hp
  have hf_o := (hR3 o hm_o ht_o).trans hf_o
  clear hT
  have hT := hT3
  clear hT3
  rcases hal with ⟨rfl, v1, hg, (⟨rfl, ha0⟩ | ⟨rfl, ha0⟩)⟩ | ⟨rfl, ha0⟩
  ·
    rcases hbl2 with ⟨rfl, rfl, hb0⟩ | ⟨rfl, rfl, hb0⟩ | ⟨rfl, rfl, hb0⟩
    ·
      exfalso
      omega
    ·
      refine lv_istore (lv' := [(6, .int 1008), (5, .int 0), (0, .ref b), (1, .ref x), (2, .ref m_), (3, .ref o), (4, .int 0)]) hx hb dL_law_2236 hl (by decide) rfl (fun ls hl => ?_)
      refine lv_aload_n hx hb dL_law_2238 rfl (lv_at hl 4 rfl) ?_
      refine t_callV (n := 0) C w hT hm_m ht_m (by decide) rfl rfl (c_X7_thrown l D K _ sa _ L2 _ Ψ2 0 hT m_ hm_m ht_m) gw_1332 gw_1329 gw_1330 gw_1331 gw_8 ⟨by decide, by decide, by decide +kernel⟩ rfl rfl ⟨Nat.le_of_ble_eq_true rfl, Nat.le_of_ble_eq_true rfl⟩ rfl hl.1 rfl (Nat.le_of_ble_eq_true rfl) dL_law_2239 ⟨Nat.le_of_ble_eq_true rfl, Nat.le_of_ble_eq_true rfl⟩ (fun v u H locs hp w => ?_)
      obtain ⟨rfl, rfl⟩ := hp
      refine lv_iload hx hb dL_law_2242 (lv_at hl 1 rfl) ?_
      refine lv_icmp_eq (tgt := 2249) hx hb dL_law_2244 (by decide) (fun _ => ?_) (fun c0 => absurd c0 (by decide))
      refine lv_iload hx hb dL_law_2249 (lv_at hl 1 rfl) ?_
      refine lv_if_ne (tgt := 2266) hx hb dL_law_2251 (by decide) (fun c0 => absurd c0 (by decide)) (fun _ => ?_)
      refine lv_aload_n hx hb dL_law_2254 rfl (lv_at hl 5 rfl) ?_
      refine lv_iconst (v := 0) hx hb dL_law_2255 (by decide) ?_
      refine t_laldR C w hm_o hf_o hg dL_law_2256 ?_
      refine lv_iload hx hb dL_law_2257 (lv_at hl 0 rfl) ?_
      refine lv_i2l (v := (1008 : Int32).toInt64) hx hb dL_law_2259 rfl ?_
      refine W.lcmp hx hb dL_law_2260 ?_
      refine lv_topi (fun y3 ey3 => ?_)
      obtain rfl : y3 = 0 := ey3.trans (lg_cmp_self _)
      refine lv_if_eq (tgt := 2266) hx hb dL_law_2261 (by decide) (fun _ => ?_) (fun c0 => absurd c0 (by decide))
      refine lv_goto (tgt := 2320) hx hb dL_law_2266 (by decide) ?_
      exact law_end A w (Nat.le_of_ble_eq_true rfl) (Nat.le_of_ble_eq_true rfl) (lv_sub hl [6, 2] rfl)
    ·
      exfalso
      omega
  ·
    rcases hbl2 with ⟨rfl, rfl, hb0⟩ | ⟨rfl, rfl, hb0⟩ | ⟨rfl, rfl, hb0⟩
    ·
      exfalso
      omega
    ·
      exfalso
      omega
    ·
      refine lv_istore (lv' := [(6, .int (-1)), (5, .int 0), (0, .ref b), (1, .ref x), (2, .ref m_), (3, .ref o), (4, .int 0)]) hx hb dL_law_2236 hl (by decide) rfl (fun ls hl => ?_)
      refine lv_aload_n hx hb dL_law_2238 rfl (lv_at hl 4 rfl) ?_
      refine t_callV (n := 0) C w hT hm_m ht_m (by decide) rfl rfl (c_X7_thrown l D K _ sa _ L2 _ Ψ2 0 hT m_ hm_m ht_m) gw_1332 gw_1329 gw_1330 gw_1331 gw_8 ⟨by decide, by decide, by decide +kernel⟩ rfl rfl ⟨Nat.le_of_ble_eq_true rfl, Nat.le_of_ble_eq_true rfl⟩ rfl hl.1 rfl (Nat.le_of_ble_eq_true rfl) dL_law_2239 ⟨Nat.le_of_ble_eq_true rfl, Nat.le_of_ble_eq_true rfl⟩ (fun v u H locs hp w => ?_)
      obtain ⟨rfl, rfl⟩ := hp
      refine lv_iload hx hb dL_law_2242 (lv_at hl 1 rfl) ?_
      refine lv_icmp_eq (tgt := 2249) hx hb dL_law_2244 (by decide) (fun _ => ?_) (fun c0 => absurd c0 (by decide))
      refine lv_iload hx hb dL_law_2249 (lv_at hl 1 rfl) ?_
      refine lv_if_ne (tgt := 2266) hx hb dL_law_2251 (by decide) (fun c0 => absurd c0 (by decide)) (fun _ => ?_)
      refine lv_aload_n hx hb dL_law_2254 rfl (lv_at hl 5 rfl) ?_
      refine lv_iconst (v := 0) hx hb dL_law_2255 (by decide) ?_
      refine t_laldR C w hm_o hf_o hg dL_law_2256 ?_
      refine lv_iload hx hb dL_law_2257 (lv_at hl 0 rfl) ?_
      refine lv_i2l (v := ((-1) : Int32).toInt64) hx hb dL_law_2259 rfl ?_
      refine W.lcmp hx hb dL_law_2260 ?_
      refine lv_topi (fun y3 ey3 => ?_)
      obtain rfl : y3 = 0 := ey3.trans (lg_cmp_self _)
      refine lv_if_eq (tgt := 2266) hx hb dL_law_2261 (by decide) (fun _ => ?_) (fun c0 => absurd c0 (by decide))
      refine lv_goto (tgt := 2320) hx hb dL_law_2266 (by decide) ?_
      exact law_end A w (Nat.le_of_ble_eq_true rfl) (Nat.le_of_ble_eq_true rfl) (lv_sub hl [6, 2] rfl)
  ·
    rcases hbl2 with ⟨rfl, rfl, hb0⟩ | ⟨rfl, rfl, hb0⟩ | ⟨rfl, rfl, hb0⟩
    ·
      refine lv_istore (lv' := [(6, .int 0), (5, .int 1), (0, .ref b), (1, .ref x), (2, .ref m_), (3, .ref o), (4, .int 0)]) hx hb dL_law_2236 hl (by decide) rfl (fun ls hl => ?_)
      refine lv_aload_n hx hb dL_law_2238 rfl (lv_at hl 4 rfl) ?_
      refine t_callV (n := 0) C w hT hm_m ht_m (by decide) rfl rfl (c_X7_thrown l D K _ sa _ L2 _ Ψ2 1 hT m_ hm_m ht_m) gw_1332 gw_1329 gw_1330 gw_1331 gw_8 ⟨by decide, by decide, by decide +kernel⟩ rfl rfl ⟨Nat.le_of_ble_eq_true rfl, Nat.le_of_ble_eq_true rfl⟩ rfl hl.1 rfl (Nat.le_of_ble_eq_true rfl) dL_law_2239 ⟨Nat.le_of_ble_eq_true rfl, Nat.le_of_ble_eq_true rfl⟩ (fun v u H locs hp w => ?_)
      obtain ⟨rfl, rfl⟩ := hp
      refine lv_iload hx hb dL_law_2242 (lv_at hl 1 rfl) ?_
      refine lv_icmp_eq (tgt := 2249) hx hb dL_law_2244 (by decide) (fun _ => ?_) (fun c0 => absurd c0 (by decide))
      refine lv_iload hx hb dL_law_2249 (lv_at hl 1 rfl) ?_
      refine lv_if_ne (tgt := 2266) hx hb dL_law_2251 (by decide) (fun _ => ?_) (fun c0 => absurd c0 (by decide))
      refine lv_goto (tgt := 2320) hx hb dL_law_2266 (by decide) ?_
      exact law_end A w (Nat.le_of_ble_eq_true rfl) (Nat.le_of_ble_eq_true rfl) (lv_sub hl [6, 2] rfl)
    ·
      exfalso
      omega
    ·
      exfalso
      omega
set_option maxHeartbeats 8000000 in
set_option maxRecDepth 100000 in
theorem arm_33 {p : Program} {l : Launch} {e : Env} {s : State} {m : MethodId} {below : List Frame} {meth : Method} {c : Code} {b : Nat} {xs : Nat → Int32} {D : va_G} {K : Nat → ClassId} {sa : Nat × Nat × Nat} {H : Heap} {locs : List Loc} {L : List Nat} {f : Nat → va_E} {Ψ : Nat → Nat} {x m_ o : Nat} {ls : Array Slot} (hls : l.stackTraces = false) (A : LwC p s m meth c b xs) (B : LwW D K sa s H locs L f Ψ x m_ o) (hl : lv_has ls 7 [(0, .ref b), (1, .ref x), (2, .ref m_), (3, .ref o), (4, .int 0)]) : W p l e room_1 s m #[Value.ref b] below meth c H locs 1258 28357 (lw_Z below #[Value.ref b] s) (F0 m 2269 ls []) := by
  obtain ⟨C, hX, hbl, hrt, hlk⟩ := id A
  obtain ⟨w, hT, ⟨hm_x, ht_x⟩, ⟨hm_m, ht_m⟩, ⟨hm_o, ht_o, g0, hf_o⟩, hno_6, hno_7, z4, hno_4⟩ := B
  have hx := C.1
  have hb := C.2.1
  have n0 : (0 : Int32).toInt = 0 := by decide
  have n1 : (1 : Int32).toInt = 1 := by decide
  refine lv_aload_n hx hb dL_law_2269 rfl (lv_at hl 1 rfl) ?_
  refine t_callV (n := 0) C w hT hm_x ht_x (by decide) rfl rfl (c_X6_image l D K _ sa _ L _ Ψ (hT.mono (gof_sub rfl)) x hm_x ht_x  (fun b c h1 h2 h3 h4 => (hno_6 b h1 h3).trans (hno_6 c h2 h4).symm)) gw_519 gw_516 gw_517 gw_518 gw_1 ⟨by decide, by decide, by decide +kernel⟩ rfl rfl ⟨Nat.le_of_ble_eq_true rfl, Nat.le_of_ble_eq_true rfl⟩ rfl hl.1 rfl (Nat.le_of_ble_eq_true rfl) dL_law_2270 ⟨Nat.le_of_ble_eq_true rfl, Nat.le_of_ble_eq_true rfl⟩ (fun v u H locs hp w => ?_)
  obtain ⟨r1, f2, rfl, rfl, hT2, hR1, hal⟩ := hp
  clear hT
  have hT := hT2
  refine lv_aload_n hx hb dL_law_2273 rfl (lv_at hl 2 rfl) ?_
  refine t_callV (n := 0) C w hT hm_m ht_m (by decide) rfl rfl (c_X7_image l D K _ sa _ L _ Ψ hT m_ hm_m ht_m  (fun b c h1 h2 h3 h4 => (hno_7 b h1 h3).trans (hno_7 c h2 h4).symm)) gw_1678 gw_1675 gw_1676 gw_1677 gw_8 ⟨by decide, by decide, by decide +kernel⟩ rfl rfl ⟨Nat.le_of_ble_eq_true rfl, Nat.le_of_ble_eq_true rfl⟩ rfl hl.1 rfl (Nat.le_of_ble_eq_true rfl) dL_law_2274 ⟨Nat.le_of_ble_eq_true rfl, Nat.le_of_ble_eq_true rfl⟩ (fun v u H locs hp w => ?_)
  obtain ⟨r2, th, f3, rfl, rfl, hT3, hR3, hbl2⟩ := hp
  clear hT
  have hT := hT3
  clear hT3
  rcases hal with rfl
  obtain ⟨rfl, rfl⟩ := hbl2
  refine lv_icmp_eq (tgt := 2320) hx hb dL_law_2277 (by decide) (fun _ => ?_) (fun c0 => absurd c0 (by decide))
  exact law_end A w (Nat.le_of_ble_eq_true rfl) (Nat.le_of_ble_eq_true rfl) (lv_sub hl [4, 0] rfl)
set_option maxHeartbeats 8000000 in
set_option maxRecDepth 100000 in
theorem arm_34 {p : Program} {l : Launch} {e : Env} {s : State} {m : MethodId} {below : List Frame} {meth : Method} {c : Code} {b : Nat} {xs : Nat → Int32} {D : va_G} {K : Nat → ClassId} {sa : Nat × Nat × Nat} {H : Heap} {locs : List Loc} {L : List Nat} {f : Nat → va_E} {Ψ : Nat → Nat} {x m_ o : Nat} {ls : Array Slot} (hls : l.stackTraces = false) (A : LwC p s m meth c b xs) (B : LwW D K sa s H locs L f Ψ x m_ o) (hl : lv_has ls 7 [(0, .ref b), (1, .ref x), (2, .ref m_), (3, .ref o), (4, .int 0)]) : W p l e room_1 s m #[Value.ref b] below meth c H locs 1258 28357 (lw_Z below #[Value.ref b] s) (F0 m 2282 ls []) := by
  obtain ⟨C, hX, hbl, hrt, hlk⟩ := id A
  obtain ⟨w, hT, ⟨hm_x, ht_x⟩, ⟨hm_m, ht_m⟩, ⟨hm_o, ht_o, g0, hf_o⟩, hno_6, hno_7, z4, hno_4⟩ := B
  have hx := C.1
  have hb := C.2.1
  have n0 : (0 : Int32).toInt = 0 := by decide
  have n1 : (1 : Int32).toInt = 1 := by decide
  refine lv_aload_n hx hb dL_law_2282 rfl (lv_at hl 1 rfl) ?_
  refine t_callV (n := 0) C w hT hm_x ht_x (by decide) rfl rfl (c_X6_restore l D K _ sa _ L _ Ψ (hT.mono (gof_sub rfl)) x hm_x ht_x  ) gw_534 gw_531 gw_532 gw_533 gw_1 ⟨by decide, by decide, by decide +kernel⟩ rfl rfl ⟨Nat.le_of_ble_eq_true rfl, Nat.le_of_ble_eq_true rfl⟩ rfl hl.1 rfl (Nat.le_of_ble_eq_true rfl) dL_law_2283 ⟨Nat.le_of_ble_eq_true rfl, Nat.le_of_ble_eq_true rfl⟩ (fun v u H locs hp w => ?_)
  obtain ⟨r1, rfl, rfl, hal⟩ := hp
  have hT := hT.mono (gof_sub (l2 := gM0) rfl)
  refine lv_aload_n hx hb dL_law_2286 rfl (lv_at hl 2 rfl) ?_
  refine t_callV (n := 0) C w hT hm_m ht_m (by decide) rfl rfl (c_X7_restore l D K _ sa _ L _ Ψ hT m_ hm_m ht_m  (fun b c h1 h2 h3 h4 => (hno_7 b h1 h3).trans (hno_7 c h2 h4).symm)) gw_1682 gw_1679 gw_1680 gw_1681 gw_8 ⟨by decide, by decide, by decide +kernel⟩ rfl rfl ⟨Nat.le_of_ble_eq_true rfl, Nat.le_of_ble_eq_true rfl⟩ rfl hl.1 rfl (Nat.le_of_ble_eq_true rfl) dL_law_2287 ⟨Nat.le_of_ble_eq_true rfl, Nat.le_of_ble_eq_true rfl⟩ (fun v u H locs hp w => ?_)
  obtain ⟨r2, th, f3, rfl, rfl, hT3, hR3, hbl2⟩ := hp
  clear hT
  have hT := hT3
  clear hT3
  rcases hal with rfl
  obtain ⟨rfl, rfl⟩ := hbl2
  refine lv_icmp_eq (tgt := 2320) hx hb dL_law_2290 (by decide) (fun _ => ?_) (fun c0 => absurd c0 (by decide))
  exact law_end A w (Nat.le_of_ble_eq_true rfl) (Nat.le_of_ble_eq_true rfl) (lv_sub hl [4, 0] rfl)
set_option maxHeartbeats 8000000 in
set_option maxRecDepth 100000 in
theorem arm_35 {p : Program} {l : Launch} {e : Env} {s : State} {m : MethodId} {below : List Frame} {meth : Method} {c : Code} {b : Nat} {xs : Nat → Int32} {D : va_G} {K : Nat → ClassId} {sa : Nat × Nat × Nat} {H : Heap} {locs : List Loc} {L : List Nat} {f : Nat → va_E} {Ψ : Nat → Nat} {x m_ o : Nat} {ls : Array Slot} (hls : l.stackTraces = false) (A : LwC p s m meth c b xs) (B : LwW D K sa s H locs L f Ψ x m_ o) (hl : lv_has ls 7 [(0, .ref b), (1, .ref x), (2, .ref m_), (3, .ref o), (4, .int 0)]) : W p l e room_1 s m #[Value.ref b] below meth c H locs 1258 28357 (lw_Z below #[Value.ref b] s) (F0 m 2295 ls []) := by
  obtain ⟨C, hX, hbl, hrt, hlk⟩ := id A
  obtain ⟨w, hT, ⟨hm_x, ht_x⟩, ⟨hm_m, ht_m⟩, ⟨hm_o, ht_o, g0, hf_o⟩, hno_6, hno_7, z4, hno_4⟩ := B
  have hx := C.1
  have hb := C.2.1
  have n0 : (0 : Int32).toInt = 0 := by decide
  have n1 : (1 : Int32).toInt = 1 := by decide
  refine lv_aload_n hx hb dL_law_2295 rfl (lv_at hl 1 rfl) ?_
  refine lv_aload_n hx hb dL_law_2296 rfl (lv_at hl 0 rfl) ?_
  refine lv_iload hx hb dL_law_2297 (lv_at hl 4 rfl) ?_
  refine lv_iconst (v := 1) hx hb dL_law_2299 (by decide) ?_
  refine lv_iadd hx hb dL_law_2300 ?_
  refine lv_topi (fun y1 ey1 => ?_)
  obtain rfl : y1 = 1 := ey1.trans (by decide)
  refine t_sld hx hb hX hbl w (j := 1) (by decide) (vp_in_iff.mpr ⟨by decide, by decide⟩) dL_law_2301 ?_
  refine t_callV (n := 1) C w hT hm_x ht_x (by decide) rfl rfl (c_X6_count l D K _ sa _ L _ Ψ hT x hm_x ht_x (xs 1) ) gw_538 gw_535 gw_536 gw_537 gw_1 ⟨by decide, by decide, by decide +kernel⟩ rfl rfl ⟨Nat.le_of_ble_eq_true rfl, Nat.le_of_ble_eq_true rfl⟩ rfl hl.1 rfl (Nat.le_of_ble_eq_true rfl) dL_law_2302 ⟨Nat.le_of_ble_eq_true rfl, Nat.le_of_ble_eq_true rfl⟩ (fun v u H locs hp w => ?_)
  obtain ⟨r1, rfl, rfl, hal⟩ := hp
  have hT := hT.mono (gof_sub (l2 := gM0) rfl)
  refine lv_aload_n hx hb dL_law_2305 rfl (lv_at hl 2 rfl) ?_
  refine lv_aload_n hx hb dL_law_2306 rfl (lv_at hl 0 rfl) ?_
  refine lv_iload hx hb dL_law_2307 (lv_at hl 4 rfl) ?_
  refine lv_iconst (v := 1) hx hb dL_law_2309 (by decide) ?_
  refine lv_iadd hx hb dL_law_2310 ?_
  refine lv_topi (fun y2 ey2 => ?_)
  obtain rfl : y2 = 1 := ey2.trans (by decide)
  refine t_sld hx hb hX hbl w (j := 1) (by decide) (vp_in_iff.mpr ⟨by decide, by decide⟩) dL_law_2311 ?_
  refine t_callV (n := 1) C w hT hm_m ht_m (by decide) rfl rfl (c_X7_count l D K _ sa _ L _ Ψ hT m_ hm_m ht_m (xs 1) (fun b c h1 h2 h3 h4 => (hno_7 b h1 h3).trans (hno_7 c h2 h4).symm)) gw_1686 gw_1683 gw_1684 gw_1685 gw_8 ⟨by decide, by decide, by decide +kernel⟩ rfl rfl ⟨Nat.le_of_ble_eq_true rfl, Nat.le_of_ble_eq_true rfl⟩ rfl hl.1 rfl (Nat.le_of_ble_eq_true rfl) dL_law_2312 ⟨Nat.le_of_ble_eq_true rfl, Nat.le_of_ble_eq_true rfl⟩ (fun v u H locs hp w => ?_)
  obtain ⟨r2, th, f3, rfl, rfl, hT3, hR3, hbl2⟩ := hp
  clear hT
  have hT := hT3
  clear hT3
  rcases hal with ⟨rfl, ha0⟩ | ⟨rfl, ha0⟩ | ⟨rfl, ha0⟩
  ·
    rcases hbl2 with ⟨rfl, rfl, hb0⟩ | ⟨rfl, rfl, hb0⟩ | ⟨rfl, rfl, hb0⟩
    ·
      refine lv_icmp_eq (tgt := 2320) hx hb dL_law_2315 (by decide) (fun _ => ?_) (fun c0 => absurd c0 (by decide))
      exact law_end A w (Nat.le_of_ble_eq_true rfl) (Nat.le_of_ble_eq_true rfl) (lv_sub hl [4, 0] rfl)
    ·
      exfalso
      omega
    ·
      exfalso
      omega
  ·
    rcases hbl2 with ⟨rfl, rfl, hb0⟩ | ⟨rfl, rfl, hb0⟩ | ⟨rfl, rfl, hb0⟩
    ·
      exfalso
      omega
    ·
      refine lv_icmp_eq (tgt := 2320) hx hb dL_law_2315 (by decide) (fun _ => ?_) (fun c0 => absurd c0 (by decide))
      exact law_end A w (Nat.le_of_ble_eq_true rfl) (Nat.le_of_ble_eq_true rfl) (lv_sub hl [4, 0] rfl)
    ·
      exfalso
      omega
  ·
    rcases hbl2 with ⟨rfl, rfl, hb0⟩ | ⟨rfl, rfl, hb0⟩ | ⟨rfl, rfl, hb0⟩
    ·
      exfalso
      omega
    ·
      exfalso
      omega
    ·
      refine lv_icmp_eq (tgt := 2320) hx hb dL_law_2315 (by decide) (fun _ => ?_) (fun c0 => absurd c0 (by decide))
      exact law_end A w (Nat.le_of_ble_eq_true rfl) (Nat.le_of_ble_eq_true rfl) (lv_sub hl [4, 0] rfl)
