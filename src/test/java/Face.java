/** The document's methods, so that the panel and the model can be asked the same things. */
interface Face {
    void fit(int place, int kind, int zone, float threshold);
    void need(int zone, int many);
    void wire(int wire, int how);
    void reading(int place, float v);
    boolean type(char c);
    int rule();
    int forget();
    int poll();
    int key(int code);
    boolean silence();
    int reset();
    boolean off(boolean zone, int number, boolean off);
    float level(int place);
    float base(int place);
    int place(int place);
    int zone(int zone);
    int output(int output);
    int held(int rule);
    int log(int i, int word);
    int count(int what);
}
