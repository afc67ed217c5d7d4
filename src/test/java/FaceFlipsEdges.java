import java.nio.file.Files;
import java.nio.file.Path;

/** Word by word through the document: what each of its sentences says at its boundaries. Argument: the document. */
public final class FaceFlipsEdges extends FaceFlipsDue {
  public static void main(String[] args) throws Exception {
    load(Files.readString(Path.of(args[0])));
    FaceFlipsOpeningEdges.run();
    FaceFlipsHeapEdges.run();
    FaceFlipsFlipEdges.run();
    FaceFlipsTextEdges.run();
    FaceFlipsCallEdges.run();
    FaceFlipsAnswerEdges.run();
    ended();
    covered();
    System.out.println(edges + " edges, " + all + " answers, " + (wrong == 0 ? "all as due" : wrong + " faults"));
    if (wrong != 0) System.exit(1);
  }
}
