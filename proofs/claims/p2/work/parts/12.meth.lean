section
end
section
end
