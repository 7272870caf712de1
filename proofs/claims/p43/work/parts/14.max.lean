theorem m_max1 : Cond.methodLink RX4 70 Lib.Math.max.name ∈ BIG := big_t 343 (by decide +kernel) (by decide +kernel)
theorem m_max2 : Cond.static Lib.Math.max.name ∈ BIG := big_t 344 (by decide +kernel) (by decide +kernel)
theorem m_max3 : Cond.code Lib.Math.max.name Lib.Math.max.code 2 (some .int) ∈ BIG := big_t 345 (by decide +kernel) (by decide +kernel)
