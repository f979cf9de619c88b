/-! # the law: its bytes, 7 (wip/gen/mk61.py) -/
theorem dL_law__1992 : decode cL_law_ 1992 = .ok (.invokevirtual 216, 3) := by decide +kernel
theorem dL_law__1995 : decode cL_law_ 1995 = .ok (.istore 6, 2) := by decide +kernel
theorem dL_law__1997 : decode cL_law_ 1997 = .ok (.aload_n 2, 1) := by decide +kernel
theorem dL_law__1998 : decode cL_law_ 1998 = .ok (.invokevirtual 125, 3) := by decide +kernel
theorem dL_law__2001 : decode cL_law_ 2001 = .ok (.iload 5, 2) := by decide +kernel
theorem dL_law__2003 : decode cL_law_ 2003 = .ok (.if_icmp .eq 5, 3) := by decide +kernel
theorem dL_law__2006 : decode cL_law_ 2006 = .ok (.iconst 0, 1) := by decide +kernel
theorem dL_law__2007 : decode cL_law_ 2007 = .ok (.ireturn, 1) := by decide +kernel
theorem dL_law__2008 : decode cL_law_ 2008 = .ok (.iload 5, 2) := by decide +kernel
theorem dL_law__2010 : decode cL_law_ 2010 = .ok (.ifCond .ne 15, 3) := by decide +kernel
theorem dL_law__2013 : decode cL_law_ 2013 = .ok (.aload_n 3, 1) := by decide +kernel
theorem dL_law__2014 : decode cL_law_ 2014 = .ok (.iconst 0, 1) := by decide +kernel
theorem dL_law__2015 : decode cL_law_ 2015 = .ok (.laload, 1) := by decide +kernel
theorem dL_law__2016 : decode cL_law_ 2016 = .ok (.iload 6, 2) := by decide +kernel
theorem dL_law__2018 : decode cL_law_ 2018 = .ok (.i2l, 1) := by decide +kernel
theorem dL_law__2019 : decode cL_law_ 2019 = .ok (.lcmp, 1) := by decide +kernel
theorem dL_law__2020 : decode cL_law_ 2020 = .ok (.ifCond .eq 5, 3) := by decide +kernel
theorem dL_law__2023 : decode cL_law_ 2023 = .ok (.iconst 0, 1) := by decide +kernel
theorem dL_law__2024 : decode cL_law_ 2024 = .ok (.ireturn, 1) := by decide +kernel
theorem dL_law__2025 : decode cL_law_ 2025 = .ok (.goto 521, 3) := by decide +kernel
theorem dL_law__2028 : decode cL_law_ 2028 = .ok (.aload_n 1, 1) := by decide +kernel
theorem dL_law__2029 : decode cL_law_ 2029 = .ok (.aload_n 0, 1) := by decide +kernel
theorem dL_law__2030 : decode cL_law_ 2030 = .ok (.iload 4, 2) := by decide +kernel
theorem dL_law__2032 : decode cL_law_ 2032 = .ok (.iconst 1, 1) := by decide +kernel
theorem dL_law__2033 : decode cL_law_ 2033 = .ok (.iadd, 1) := by decide +kernel
theorem dL_law__2034 : decode cL_law_ 2034 = .ok (.iaload, 1) := by decide +kernel
theorem dL_law__2035 : decode cL_law_ 2035 = .ok (.aload_n 3, 1) := by decide +kernel
theorem dL_law__2036 : decode cL_law_ 2036 = .ok (.invokestatic 217, 3) := by decide +kernel
theorem dL_law__2039 : decode cL_law_ 2039 = .ok (.istore 5, 2) := by decide +kernel
theorem dL_law__2041 : decode cL_law_ 2041 = .ok (.aload_n 2, 1) := by decide +kernel
theorem dL_law__2042 : decode cL_law_ 2042 = .ok (.aload_n 0, 1) := by decide +kernel
theorem dL_law__2043 : decode cL_law_ 2043 = .ok (.iload 4, 2) := by decide +kernel
theorem dL_law__2045 : decode cL_law_ 2045 = .ok (.iconst 1, 1) := by decide +kernel
theorem dL_law__2046 : decode cL_law_ 2046 = .ok (.iadd, 1) := by decide +kernel
theorem dL_law__2047 : decode cL_law_ 2047 = .ok (.iaload, 1) := by decide +kernel
theorem dL_law__2048 : decode cL_law_ 2048 = .ok (.invokevirtual 219, 3) := by decide +kernel
theorem dL_law__2051 : decode cL_law_ 2051 = .ok (.istore 6, 2) := by decide +kernel
theorem dL_law__2053 : decode cL_law_ 2053 = .ok (.aload_n 2, 1) := by decide +kernel
theorem dL_law__2054 : decode cL_law_ 2054 = .ok (.invokevirtual 125, 3) := by decide +kernel
theorem dL_law__2057 : decode cL_law_ 2057 = .ok (.iload 5, 2) := by decide +kernel
theorem dL_law__2059 : decode cL_law_ 2059 = .ok (.if_icmp .eq 5, 3) := by decide +kernel
theorem dL_law__2062 : decode cL_law_ 2062 = .ok (.iconst 0, 1) := by decide +kernel
theorem dL_law__2063 : decode cL_law_ 2063 = .ok (.ireturn, 1) := by decide +kernel
theorem dL_law__2064 : decode cL_law_ 2064 = .ok (.iload 5, 2) := by decide +kernel
theorem dL_law__2066 : decode cL_law_ 2066 = .ok (.ifCond .ne 15, 3) := by decide +kernel
theorem dL_law__2069 : decode cL_law_ 2069 = .ok (.aload_n 3, 1) := by decide +kernel
theorem dL_law__2070 : decode cL_law_ 2070 = .ok (.iconst 0, 1) := by decide +kernel
theorem dL_law__2071 : decode cL_law_ 2071 = .ok (.laload, 1) := by decide +kernel
theorem dL_law__2072 : decode cL_law_ 2072 = .ok (.iload 6, 2) := by decide +kernel
theorem dL_law__2074 : decode cL_law_ 2074 = .ok (.i2l, 1) := by decide +kernel
theorem dL_law__2075 : decode cL_law_ 2075 = .ok (.lcmp, 1) := by decide +kernel
theorem dL_law__2076 : decode cL_law_ 2076 = .ok (.ifCond .eq 5, 3) := by decide +kernel
theorem dL_law__2079 : decode cL_law_ 2079 = .ok (.iconst 0, 1) := by decide +kernel
theorem dL_law__2080 : decode cL_law_ 2080 = .ok (.ireturn, 1) := by decide +kernel
theorem dL_law__2081 : decode cL_law_ 2081 = .ok (.goto 465, 3) := by decide +kernel
theorem dL_law__2084 : decode cL_law_ 2084 = .ok (.aload_n 1, 1) := by decide +kernel
theorem dL_law__2085 : decode cL_law_ 2085 = .ok (.invokevirtual 220, 3) := by decide +kernel
theorem dL_law__2088 : decode cL_law_ 2088 = .ok (.aload_n 2, 1) := by decide +kernel
theorem dL_law__2089 : decode cL_law_ 2089 = .ok (.invokevirtual 223, 3) := by decide +kernel
theorem dL_law__2092 : decode cL_law_ 2092 = .ok (.if_icmp .eq 454, 3) := by decide +kernel
theorem dL_law__2095 : decode cL_law_ 2095 = .ok (.iconst 0, 1) := by decide +kernel
theorem dL_law__2096 : decode cL_law_ 2096 = .ok (.ireturn, 1) := by decide +kernel
theorem dL_law__2097 : decode cL_law_ 2097 = .ok (.aload_n 1, 1) := by decide +kernel
theorem dL_law__2098 : decode cL_law_ 2098 = .ok (.invokevirtual 224, 3) := by decide +kernel
theorem dL_law__2101 : decode cL_law_ 2101 = .ok (.aload_n 2, 1) := by decide +kernel
theorem dL_law__2102 : decode cL_law_ 2102 = .ok (.invokevirtual 227, 3) := by decide +kernel
theorem dL_law__2105 : decode cL_law_ 2105 = .ok (.if_icmp .eq 441, 3) := by decide +kernel
theorem dL_law__2108 : decode cL_law_ 2108 = .ok (.iconst 0, 1) := by decide +kernel
theorem dL_law__2109 : decode cL_law_ 2109 = .ok (.ireturn, 1) := by decide +kernel
theorem dL_law__2110 : decode cL_law_ 2110 = .ok (.aload_n 1, 1) := by decide +kernel
theorem dL_law__2111 : decode cL_law_ 2111 = .ok (.aload_n 0, 1) := by decide +kernel
theorem dL_law__2112 : decode cL_law_ 2112 = .ok (.iload 4, 2) := by decide +kernel
theorem dL_law__2114 : decode cL_law_ 2114 = .ok (.iconst 1, 1) := by decide +kernel
theorem dL_law__2115 : decode cL_law_ 2115 = .ok (.iadd, 1) := by decide +kernel
theorem dL_law__2116 : decode cL_law_ 2116 = .ok (.iaload, 1) := by decide +kernel
theorem dL_law__2117 : decode cL_law_ 2117 = .ok (.aload_n 0, 1) := by decide +kernel
theorem dL_law__2118 : decode cL_law_ 2118 = .ok (.iload 4, 2) := by decide +kernel
theorem dL_law__2120 : decode cL_law_ 2120 = .ok (.iconst 2, 1) := by decide +kernel
theorem dL_law__2121 : decode cL_law_ 2121 = .ok (.iadd, 1) := by decide +kernel
theorem dL_law__2122 : decode cL_law_ 2122 = .ok (.iaload, 1) := by decide +kernel
theorem dL_law__2123 : decode cL_law_ 2123 = .ok (.aload_n 3, 1) := by decide +kernel
theorem dL_law__2124 : decode cL_law_ 2124 = .ok (.invokestatic 228, 3) := by decide +kernel
theorem dL_law__2127 : decode cL_law_ 2127 = .ok (.istore 5, 2) := by decide +kernel
theorem dL_law__2129 : decode cL_law_ 2129 = .ok (.aload_n 2, 1) := by decide +kernel
theorem dL_law__2130 : decode cL_law_ 2130 = .ok (.aload_n 0, 1) := by decide +kernel
theorem dL_law__2131 : decode cL_law_ 2131 = .ok (.iload 4, 2) := by decide +kernel
theorem dL_law__2133 : decode cL_law_ 2133 = .ok (.iconst 1, 1) := by decide +kernel
theorem dL_law__2134 : decode cL_law_ 2134 = .ok (.iadd, 1) := by decide +kernel
theorem dL_law__2135 : decode cL_law_ 2135 = .ok (.iaload, 1) := by decide +kernel
theorem dL_law__2136 : decode cL_law_ 2136 = .ok (.aload_n 0, 1) := by decide +kernel
theorem dL_law__2137 : decode cL_law_ 2137 = .ok (.iload 4, 2) := by decide +kernel
theorem dL_law__2139 : decode cL_law_ 2139 = .ok (.iconst 2, 1) := by decide +kernel
theorem dL_law__2140 : decode cL_law_ 2140 = .ok (.iadd, 1) := by decide +kernel
theorem dL_law__2141 : decode cL_law_ 2141 = .ok (.iaload, 1) := by decide +kernel
theorem dL_law__2142 : decode cL_law_ 2142 = .ok (.invokevirtual 230, 3) := by decide +kernel
theorem dL_law__2145 : decode cL_law_ 2145 = .ok (.istore 6, 2) := by decide +kernel
theorem dL_law__2147 : decode cL_law_ 2147 = .ok (.aload_n 2, 1) := by decide +kernel
theorem dL_law__2148 : decode cL_law_ 2148 = .ok (.invokevirtual 125, 3) := by decide +kernel
theorem dL_law__2151 : decode cL_law_ 2151 = .ok (.iload 5, 2) := by decide +kernel
theorem dL_law__2153 : decode cL_law_ 2153 = .ok (.if_icmp .eq 5, 3) := by decide +kernel
theorem dL_law__2156 : decode cL_law_ 2156 = .ok (.iconst 0, 1) := by decide +kernel
theorem dL_law__2157 : decode cL_law_ 2157 = .ok (.ireturn, 1) := by decide +kernel
theorem dL_law__2158 : decode cL_law_ 2158 = .ok (.iload 5, 2) := by decide +kernel
theorem dL_law__2160 : decode cL_law_ 2160 = .ok (.ifCond .ne 15, 3) := by decide +kernel
theorem dL_law__2163 : decode cL_law_ 2163 = .ok (.aload_n 3, 1) := by decide +kernel
theorem dL_law__2164 : decode cL_law_ 2164 = .ok (.iconst 0, 1) := by decide +kernel
theorem dL_law__2165 : decode cL_law_ 2165 = .ok (.laload, 1) := by decide +kernel
theorem dL_law__2166 : decode cL_law_ 2166 = .ok (.iload 6, 2) := by decide +kernel
theorem dL_law__2168 : decode cL_law_ 2168 = .ok (.i2l, 1) := by decide +kernel
theorem dL_law__2169 : decode cL_law_ 2169 = .ok (.lcmp, 1) := by decide +kernel
theorem dL_law__2170 : decode cL_law_ 2170 = .ok (.ifCond .eq 5, 3) := by decide +kernel
theorem dL_law__2173 : decode cL_law_ 2173 = .ok (.iconst 0, 1) := by decide +kernel
theorem dL_law__2174 : decode cL_law_ 2174 = .ok (.ireturn, 1) := by decide +kernel
theorem dL_law__2175 : decode cL_law_ 2175 = .ok (.goto 371, 3) := by decide +kernel
theorem dL_law__2178 : decode cL_law_ 2178 = .ok (.aload_n 1, 1) := by decide +kernel
theorem dL_law__2179 : decode cL_law_ 2179 = .ok (.aload_n 0, 1) := by decide +kernel
theorem dL_law__2180 : decode cL_law_ 2180 = .ok (.iload 4, 2) := by decide +kernel
theorem dL_law__2182 : decode cL_law_ 2182 = .ok (.iconst 1, 1) := by decide +kernel
theorem dL_law__2183 : decode cL_law_ 2183 = .ok (.iadd, 1) := by decide +kernel
theorem dL_law__2184 : decode cL_law_ 2184 = .ok (.iaload, 1) := by decide +kernel
theorem dL_law__2185 : decode cL_law_ 2185 = .ok (.aload_n 3, 1) := by decide +kernel
theorem dL_law__2186 : decode cL_law_ 2186 = .ok (.invokestatic 231, 3) := by decide +kernel
theorem dL_law__2189 : decode cL_law_ 2189 = .ok (.istore 5, 2) := by decide +kernel
theorem dL_law__2191 : decode cL_law_ 2191 = .ok (.aload_n 2, 1) := by decide +kernel
theorem dL_law__2192 : decode cL_law_ 2192 = .ok (.aload_n 0, 1) := by decide +kernel
theorem dL_law__2193 : decode cL_law_ 2193 = .ok (.iload 4, 2) := by decide +kernel
theorem dL_law__2195 : decode cL_law_ 2195 = .ok (.iconst 1, 1) := by decide +kernel
theorem dL_law__2196 : decode cL_law_ 2196 = .ok (.iadd, 1) := by decide +kernel
theorem dL_law__2197 : decode cL_law_ 2197 = .ok (.iaload, 1) := by decide +kernel
theorem dL_law__2198 : decode cL_law_ 2198 = .ok (.invokevirtual 233, 3) := by decide +kernel
theorem dL_law__2201 : decode cL_law_ 2201 = .ok (.istore 6, 2) := by decide +kernel
theorem dL_law__2203 : decode cL_law_ 2203 = .ok (.aload_n 2, 1) := by decide +kernel
theorem dL_law__2204 : decode cL_law_ 2204 = .ok (.invokevirtual 125, 3) := by decide +kernel
theorem dL_law__2207 : decode cL_law_ 2207 = .ok (.iload 5, 2) := by decide +kernel
theorem dL_law__2209 : decode cL_law_ 2209 = .ok (.if_icmp .eq 5, 3) := by decide +kernel
theorem dL_law__2212 : decode cL_law_ 2212 = .ok (.iconst 0, 1) := by decide +kernel
theorem dL_law__2213 : decode cL_law_ 2213 = .ok (.ireturn, 1) := by decide +kernel
theorem dL_law__2214 : decode cL_law_ 2214 = .ok (.iload 5, 2) := by decide +kernel
theorem dL_law__2216 : decode cL_law_ 2216 = .ok (.ifCond .ne 15, 3) := by decide +kernel
theorem dL_law__2219 : decode cL_law_ 2219 = .ok (.aload_n 3, 1) := by decide +kernel
theorem dL_law__2220 : decode cL_law_ 2220 = .ok (.iconst 0, 1) := by decide +kernel
theorem dL_law__2221 : decode cL_law_ 2221 = .ok (.laload, 1) := by decide +kernel
theorem dL_law__2222 : decode cL_law_ 2222 = .ok (.iload 6, 2) := by decide +kernel
theorem dL_law__2224 : decode cL_law_ 2224 = .ok (.i2l, 1) := by decide +kernel
theorem dL_law__2225 : decode cL_law_ 2225 = .ok (.lcmp, 1) := by decide +kernel
theorem dL_law__2226 : decode cL_law_ 2226 = .ok (.ifCond .eq 5, 3) := by decide +kernel
theorem dL_law__2229 : decode cL_law_ 2229 = .ok (.iconst 0, 1) := by decide +kernel
theorem dL_law__2230 : decode cL_law_ 2230 = .ok (.ireturn, 1) := by decide +kernel
theorem dL_law__2231 : decode cL_law_ 2231 = .ok (.goto 315, 3) := by decide +kernel
theorem dL_law__2234 : decode cL_law_ 2234 = .ok (.aload_n 1, 1) := by decide +kernel
theorem dL_law__2235 : decode cL_law_ 2235 = .ok (.aload_n 0, 1) := by decide +kernel
theorem dL_law__2236 : decode cL_law_ 2236 = .ok (.iload 4, 2) := by decide +kernel
theorem dL_law__2238 : decode cL_law_ 2238 = .ok (.iconst 1, 1) := by decide +kernel
theorem dL_law__2239 : decode cL_law_ 2239 = .ok (.iadd, 1) := by decide +kernel
theorem dL_law__2240 : decode cL_law_ 2240 = .ok (.iaload, 1) := by decide +kernel
theorem dL_law__2241 : decode cL_law_ 2241 = .ok (.aload_n 0, 1) := by decide +kernel
theorem dL_law__2242 : decode cL_law_ 2242 = .ok (.iload 4, 2) := by decide +kernel
theorem dL_law__2244 : decode cL_law_ 2244 = .ok (.iconst 2, 1) := by decide +kernel
theorem dL_law__2245 : decode cL_law_ 2245 = .ok (.iadd, 1) := by decide +kernel
theorem dL_law__2246 : decode cL_law_ 2246 = .ok (.iaload, 1) := by decide +kernel
theorem dL_law__2247 : decode cL_law_ 2247 = .ok (.aload_n 0, 1) := by decide +kernel
theorem dL_law__2248 : decode cL_law_ 2248 = .ok (.iload 4, 2) := by decide +kernel
theorem dL_law__2250 : decode cL_law_ 2250 = .ok (.iconst 3, 1) := by decide +kernel
theorem dL_law__2251 : decode cL_law_ 2251 = .ok (.iadd, 1) := by decide +kernel
theorem dL_law__2252 : decode cL_law_ 2252 = .ok (.iaload, 1) := by decide +kernel
theorem dL_law__2253 : decode cL_law_ 2253 = .ok (.aload_n 0, 1) := by decide +kernel
theorem dL_law__2254 : decode cL_law_ 2254 = .ok (.iload 4, 2) := by decide +kernel
theorem dL_law__2256 : decode cL_law_ 2256 = .ok (.iconst 4, 1) := by decide +kernel
theorem dL_law__2257 : decode cL_law_ 2257 = .ok (.iadd, 1) := by decide +kernel
theorem dL_law__2258 : decode cL_law_ 2258 = .ok (.iaload, 1) := by decide +kernel
theorem dL_law__2259 : decode cL_law_ 2259 = .ok (.aload_n 0, 1) := by decide +kernel
theorem dL_law__2260 : decode cL_law_ 2260 = .ok (.iload 4, 2) := by decide +kernel
theorem dL_law__2262 : decode cL_law_ 2262 = .ok (.iconst 5, 1) := by decide +kernel
theorem dL_law__2263 : decode cL_law_ 2263 = .ok (.iadd, 1) := by decide +kernel
theorem dL_law__2264 : decode cL_law_ 2264 = .ok (.iaload, 1) := by decide +kernel
theorem dL_law__2265 : decode cL_law_ 2265 = .ok (.aload_n 3, 1) := by decide +kernel
theorem dL_law__2266 : decode cL_law_ 2266 = .ok (.invokestatic 234, 3) := by decide +kernel
theorem dL_law__2269 : decode cL_law_ 2269 = .ok (.istore 5, 2) := by decide +kernel
theorem dL_law__2271 : decode cL_law_ 2271 = .ok (.aload_n 2, 1) := by decide +kernel
theorem dL_law__2272 : decode cL_law_ 2272 = .ok (.aload_n 0, 1) := by decide +kernel
theorem dL_law__2273 : decode cL_law_ 2273 = .ok (.iload 4, 2) := by decide +kernel
theorem dL_law__2275 : decode cL_law_ 2275 = .ok (.iconst 1, 1) := by decide +kernel
theorem dL_law__2276 : decode cL_law_ 2276 = .ok (.iadd, 1) := by decide +kernel
theorem dL_law__2277 : decode cL_law_ 2277 = .ok (.iaload, 1) := by decide +kernel
theorem dL_law__2278 : decode cL_law_ 2278 = .ok (.aload_n 0, 1) := by decide +kernel
theorem dL_law__2279 : decode cL_law_ 2279 = .ok (.iload 4, 2) := by decide +kernel
theorem dL_law__2281 : decode cL_law_ 2281 = .ok (.iconst 2, 1) := by decide +kernel
theorem dL_law__2282 : decode cL_law_ 2282 = .ok (.iadd, 1) := by decide +kernel
theorem dL_law__2283 : decode cL_law_ 2283 = .ok (.iaload, 1) := by decide +kernel
theorem dL_law__2284 : decode cL_law_ 2284 = .ok (.aload_n 0, 1) := by decide +kernel
theorem dL_law__2285 : decode cL_law_ 2285 = .ok (.iload 4, 2) := by decide +kernel
theorem dL_law__2287 : decode cL_law_ 2287 = .ok (.iconst 3, 1) := by decide +kernel
theorem dL_law__2288 : decode cL_law_ 2288 = .ok (.iadd, 1) := by decide +kernel
theorem dL_law__2289 : decode cL_law_ 2289 = .ok (.iaload, 1) := by decide +kernel
theorem dL_law__2290 : decode cL_law_ 2290 = .ok (.aload_n 0, 1) := by decide +kernel
theorem dL_law__2291 : decode cL_law_ 2291 = .ok (.iload 4, 2) := by decide +kernel
theorem dL_law__2293 : decode cL_law_ 2293 = .ok (.iconst 4, 1) := by decide +kernel
theorem dL_law__2294 : decode cL_law_ 2294 = .ok (.iadd, 1) := by decide +kernel
theorem dL_law__2295 : decode cL_law_ 2295 = .ok (.iaload, 1) := by decide +kernel
theorem dL_law__2296 : decode cL_law_ 2296 = .ok (.aload_n 0, 1) := by decide +kernel
