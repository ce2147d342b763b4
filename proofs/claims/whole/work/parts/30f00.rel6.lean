/-! REL6: bulbs, keys, state -/
