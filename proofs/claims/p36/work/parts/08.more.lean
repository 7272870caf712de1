theorem m_t262 : Cond.methodLink RX2 29 arraycopyName ∈ BIG := big_t 262 (by decide +kernel) (by decide +kernel)
theorem m_t263 : Cond.static arraycopyName ∈ BIG := big_t 263 (by decide +kernel) (by decide +kernel)
theorem m_t310 : Cond.methodLink RX4 52 arraycopyName ∈ BIG := big_t 310 (by decide +kernel) (by decide +kernel)
