/** The document's methods, so that the panel and the model can be asked the same things. */
interface Face {
    void fit(int place, int kind, int zone, float threshold);
    void need(int zone, int many);
    void wire(int wire, int how);
    void reading(int place, float v);
    boolean type(char c);
    int rule();
    int forget();
    int poll();
    int key(int code);
    boolean silence();
    int reset();
    boolean off(boolean zone, int number, boolean off);
    float level(int place);
    float base(int place);
    int place(int place);
    int zone(int zone);
    int output(int output);
    int held(int rule);
    int log(int i, int word);
    int count(int what);

    record Real(FirePanel panel) implements Face {
        public void fit(int place, int kind, int zone, float threshold) { panel.fit(place, kind, zone, threshold); }
        public void need(int zone, int many) { panel.need(zone, many); }
        public void wire(int wire, int how) { panel.wire(wire, how); }
        public void reading(int place, float v) { panel.reading(place, v); }
        public boolean type(char c) { return panel.type(c); }
        public int rule() { return panel.rule(); }
        public int forget() { return panel.forget(); }
        public int poll() { return panel.poll(); }
        public int key(int code) { return panel.key(code); }
        public boolean silence() { return panel.silence(); }
        public int reset() { return panel.reset(); }
        public boolean off(boolean zone, int number, boolean off) { return panel.off(zone, number, off); }
        public float level(int place) { return panel.level(place); }
        public float base(int place) { return panel.base(place); }
        public int place(int place) { return panel.place(place); }
        public int zone(int zone) { return panel.zone(zone); }
        public int output(int output) { return panel.output(output); }
        public int held(int rule) { return panel.held(rule); }
        public int log(int i, int word) { return panel.log(i, word); }
        public int count(int what) { return panel.count(what); }
    }
}
